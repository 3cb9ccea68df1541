section
-- ===== PART A: goes FIRST, ahead of the names: the tables' words, and 'selects' of the private methods out of them =====
/-- a private method of a class that the tables say can be made, by its rows of tables_1 -/
def lw_okq (q : MethodName × Nat) : Prop := (q.1.cls ≠ "java/lang/invoke/MethodHandle" ∧ q.1.cls ≠ "java/lang/invoke/VarHandle") ∧ Cond.instantiable q.1.cls q.2 ∈ tables_1 ∧ Cond.privateMethod q.1 ∈ tables_1 ∧ Cond.instanceMethod q.1 ∈ tables_1
theorem lw_p0 : lw_okq (⟨"SeenCools", "isWall", "(I)Z"⟩, 10) := ⟨⟨by decide +kernel, by decide +kernel⟩, List.mem_of_getElem? (i := 17) (by decide +kernel), List.mem_of_getElem? (i := 444) (by decide +kernel), List.mem_of_getElem? (i := 445) (by decide +kernel)⟩
theorem lw_p1 : lw_okq (⟨"SeenCools", "busyHours", "(II)I"⟩, 10) := ⟨⟨by decide +kernel, by decide +kernel⟩, List.mem_of_getElem? (i := 17) (by decide +kernel), List.mem_of_getElem? (i := 583) (by decide +kernel), List.mem_of_getElem? (i := 584) (by decide +kernel)⟩
theorem lw_p2 : lw_okq (⟨"SeenCools", "blanketOf", "(IIII)I"⟩, 10) := ⟨⟨by decide +kernel, by decide +kernel⟩, List.mem_of_getElem? (i := 17) (by decide +kernel), List.mem_of_getElem? (i := 596) (by decide +kernel), List.mem_of_getElem? (i := 597) (by decide +kernel)⟩
theorem lw_p3 : lw_okq (⟨"SeenCools", "leastHarmed", "(I)I"⟩, 10) := ⟨⟨by decide +kernel, by decide +kernel⟩, List.mem_of_getElem? (i := 17) (by decide +kernel), List.mem_of_getElem? (i := 609) (by decide +kernel), List.mem_of_getElem? (i := 610) (by decide +kernel)⟩
theorem lw_p4 : lw_okq (⟨"SeenCools", "harmDone", "(II)I"⟩, 10) := ⟨⟨by decide +kernel, by decide +kernel⟩, List.mem_of_getElem? (i := 17) (by decide +kernel), List.mem_of_getElem? (i := 613) (by decide +kernel), List.mem_of_getElem? (i := 614) (by decide +kernel)⟩
theorem lw_p5 : lw_okq (⟨"SeenCools", "holesOfAll", "()I"⟩, 10) := ⟨⟨by decide +kernel, by decide +kernel⟩, List.mem_of_getElem? (i := 17) (by decide +kernel), List.mem_of_getElem? (i := 633) (by decide +kernel), List.mem_of_getElem? (i := 634) (by decide +kernel)⟩
theorem lw_p6 : lw_okq (⟨"SeenCools", "holeRate", "(I)I"⟩, 10) := ⟨⟨by decide +kernel, by decide +kernel⟩, List.mem_of_getElem? (i := 17) (by decide +kernel), List.mem_of_getElem? (i := 651) (by decide +kernel), List.mem_of_getElem? (i := 652) (by decide +kernel)⟩
theorem lw_p7 : lw_okq (⟨"SeenCools", "markOfWall", "(I)I"⟩, 10) := ⟨⟨by decide +kernel, by decide +kernel⟩, List.mem_of_getElem? (i := 17) (by decide +kernel), List.mem_of_getElem? (i := 659) (by decide +kernel), List.mem_of_getElem? (i := 660) (by decide +kernel)⟩
theorem lw_p8 : lw_okq (⟨"SeenCools", "markOfFin", "(I)I"⟩, 10) := ⟨⟨by decide +kernel, by decide +kernel⟩, List.mem_of_getElem? (i := 17) (by decide +kernel), List.mem_of_getElem? (i := 663) (by decide +kernel), List.mem_of_getElem? (i := 664) (by decide +kernel)⟩
theorem lw_p9 : lw_okq (⟨"SeenCools", "markOfBrick", "(I)I"⟩, 10) := ⟨⟨by decide +kernel, by decide +kernel⟩, List.mem_of_getElem? (i := 17) (by decide +kernel), List.mem_of_getElem? (i := 668) (by decide +kernel), List.mem_of_getElem? (i := 669) (by decide +kernel)⟩
theorem lw_p10 : lw_okq (⟨"SeenCools", "markOfFurnace", "(I)I"⟩, 10) := ⟨⟨by decide +kernel, by decide +kernel⟩, List.mem_of_getElem? (i := 17) (by decide +kernel), List.mem_of_getElem? (i := 673) (by decide +kernel), List.mem_of_getElem? (i := 674) (by decide +kernel)⟩
theorem lw_p11 : lw_okq (⟨"SeenCools", "markOfWindow", "(I)I"⟩, 10) := ⟨⟨by decide +kernel, by decide +kernel⟩, List.mem_of_getElem? (i := 17) (by decide +kernel), List.mem_of_getElem? (i := 678) (by decide +kernel), List.mem_of_getElem? (i := 679) (by decide +kernel)⟩
theorem lw_p12 : lw_okq (⟨"SeenCools", "markOfHull", "(I)I"⟩, 10) := ⟨⟨by decide +kernel, by decide +kernel⟩, List.mem_of_getElem? (i := 17) (by decide +kernel), List.mem_of_getElem? (i := 683) (by decide +kernel), List.mem_of_getElem? (i := 684) (by decide +kernel)⟩
theorem lw_p13 : lw_okq (⟨"SeenCoolsModel", "reads", "()V"⟩, 33) := ⟨⟨by decide +kernel, by decide +kernel⟩, List.mem_of_getElem? (i := 712) (by decide +kernel), List.mem_of_getElem? (i := 835) (by decide +kernel), List.mem_of_getElem? (i := 836) (by decide +kernel)⟩
theorem lw_p14 : lw_okq (⟨"SeenCoolsModel", "readWord", "()V"⟩, 33) := ⟨⟨by decide +kernel, by decide +kernel⟩, List.mem_of_getElem? (i := 712) (by decide +kernel), List.mem_of_getElem? (i := 844) (by decide +kernel), List.mem_of_getElem? (i := 845) (by decide +kernel)⟩
theorem lw_p15 : lw_okq (⟨"SeenCoolsModel", "readNumber", "()V"⟩, 33) := ⟨⟨by decide +kernel, by decide +kernel⟩, List.mem_of_getElem? (i := 712) (by decide +kernel), List.mem_of_getElem? (i := 859) (by decide +kernel), List.mem_of_getElem? (i := 860) (by decide +kernel)⟩
def lw_privs_1 : List (MethodName × Nat) := [(⟨"SeenCools", "isWall", "(I)Z"⟩, 10), (⟨"SeenCools", "busyHours", "(II)I"⟩, 10), (⟨"SeenCools", "blanketOf", "(IIII)I"⟩, 10), (⟨"SeenCools", "leastHarmed", "(I)I"⟩, 10), (⟨"SeenCools", "harmDone", "(II)I"⟩, 10), (⟨"SeenCools", "holesOfAll", "()I"⟩, 10), (⟨"SeenCools", "holeRate", "(I)I"⟩, 10), (⟨"SeenCools", "markOfWall", "(I)I"⟩, 10), (⟨"SeenCools", "markOfFin", "(I)I"⟩, 10), (⟨"SeenCools", "markOfBrick", "(I)I"⟩, 10), (⟨"SeenCools", "markOfFurnace", "(I)I"⟩, 10), (⟨"SeenCools", "markOfWindow", "(I)I"⟩, 10), (⟨"SeenCools", "markOfHull", "(I)I"⟩, 10), (⟨"SeenCoolsModel", "reads", "()V"⟩, 33), (⟨"SeenCoolsModel", "readWord", "()V"⟩, 33), (⟨"SeenCoolsModel", "readNumber", "()V"⟩, 33)]
theorem lw_r1 : ∀ q ∈ lw_privs_1, lw_okq q := List.forall_mem_cons.mpr ⟨lw_p0, List.forall_mem_cons.mpr ⟨lw_p1, List.forall_mem_cons.mpr ⟨lw_p2, List.forall_mem_cons.mpr ⟨lw_p3, List.forall_mem_cons.mpr ⟨lw_p4, List.forall_mem_cons.mpr ⟨lw_p5, List.forall_mem_cons.mpr ⟨lw_p6, List.forall_mem_cons.mpr ⟨lw_p7, List.forall_mem_cons.mpr ⟨lw_p8, List.forall_mem_cons.mpr ⟨lw_p9, List.forall_mem_cons.mpr ⟨lw_p10, List.forall_mem_cons.mpr ⟨lw_p11, List.forall_mem_cons.mpr ⟨lw_p12, List.forall_mem_cons.mpr ⟨lw_p13, List.forall_mem_cons.mpr ⟨lw_p14, List.forall_mem_cons.mpr ⟨lw_p15, fun _ h => absurd h List.not_mem_nil⟩⟩⟩⟩⟩⟩⟩⟩⟩⟩⟩⟩⟩⟩⟩⟩
theorem lw_p16 : lw_okq (⟨"SeenCoolsModel", "readItem", "()Z"⟩, 33) := ⟨⟨by decide +kernel, by decide +kernel⟩, List.mem_of_getElem? (i := 712) (by decide +kernel), List.mem_of_getElem? (i := 863) (by decide +kernel), List.mem_of_getElem? (i := 864) (by decide +kernel)⟩
theorem lw_p17 : lw_okq (⟨"SeenCoolsModel", "readWall", "()Z"⟩, 33) := ⟨⟨by decide +kernel, by decide +kernel⟩, List.mem_of_getElem? (i := 712) (by decide +kernel), List.mem_of_getElem? (i := 867) (by decide +kernel), List.mem_of_getElem? (i := 868) (by decide +kernel)⟩
theorem lw_p18 : lw_okq (⟨"SeenCoolsModel", "number", "(II)I"⟩, 33) := ⟨⟨by decide +kernel, by decide +kernel⟩, List.mem_of_getElem? (i := 712) (by decide +kernel), List.mem_of_getElem? (i := 871) (by decide +kernel), List.mem_of_getElem? (i := 872) (by decide +kernel)⟩
theorem lw_p19 : lw_okq (⟨"SeenCoolsModel", "readSees", "()Z"⟩, 33) := ⟨⟨by decide +kernel, by decide +kernel⟩, List.mem_of_getElem? (i := 712) (by decide +kernel), List.mem_of_getElem? (i := 875) (by decide +kernel), List.mem_of_getElem? (i := 876) (by decide +kernel)⟩
theorem lw_p20 : lw_okq (⟨"SeenCoolsModel", "seen", "([II)I"⟩, 33) := ⟨⟨by decide +kernel, by decide +kernel⟩, List.mem_of_getElem? (i := 712) (by decide +kernel), List.mem_of_getElem? (i := 879) (by decide +kernel), List.mem_of_getElem? (i := 880) (by decide +kernel)⟩
theorem lw_p21 : lw_okq (⟨"SeenCoolsModel", "readWork", "()Z"⟩, 33) := ⟨⟨by decide +kernel, by decide +kernel⟩, List.mem_of_getElem? (i := 712) (by decide +kernel), List.mem_of_getElem? (i := 883) (by decide +kernel), List.mem_of_getElem? (i := 884) (by decide +kernel)⟩
theorem lw_p22 : lw_okq (⟨"SeenCoolsModel", "takes", "()V"⟩, 33) := ⟨⟨by decide +kernel, by decide +kernel⟩, List.mem_of_getElem? (i := 712) (by decide +kernel), List.mem_of_getElem? (i := 887) (by decide +kernel), List.mem_of_getElem? (i := 888) (by decide +kernel)⟩
theorem lw_p23 : lw_okq (⟨"SeenCoolsModel", "isWall", "(I)Z"⟩, 33) := ⟨⟨by decide +kernel, by decide +kernel⟩, List.mem_of_getElem? (i := 712) (by decide +kernel), List.mem_of_getElem? (i := 895) (by decide +kernel), List.mem_of_getElem? (i := 896) (by decide +kernel)⟩
theorem lw_p24 : lw_okq (⟨"SeenCoolsModel", "goes", "([IIII)I"⟩, 33) := ⟨⟨by decide +kernel, by decide +kernel⟩, List.mem_of_getElem? (i := 712) (by decide +kernel), List.mem_of_getElem? (i := 907) (by decide +kernel), List.mem_of_getElem? (i := 908) (by decide +kernel)⟩
theorem lw_p25 : lw_okq (⟨"SeenCoolsModel", "notes", "(I)V"⟩, 33) := ⟨⟨by decide +kernel, by decide +kernel⟩, List.mem_of_getElem? (i := 712) (by decide +kernel), List.mem_of_getElem? (i := 915) (by decide +kernel), List.mem_of_getElem? (i := 916) (by decide +kernel)⟩
theorem lw_p26 : lw_okq (⟨"SeenCoolsModel", "begins", "()V"⟩, 33) := ⟨⟨by decide +kernel, by decide +kernel⟩, List.mem_of_getElem? (i := 712) (by decide +kernel), List.mem_of_getElem? (i := 939) (by decide +kernel), List.mem_of_getElem? (i := 940) (by decide +kernel)⟩
theorem lw_p27 : lw_okq (⟨"SeenCoolsModel", "passes", "(III)V"⟩, 33) := ⟨⟨by decide +kernel, by decide +kernel⟩, List.mem_of_getElem? (i := 712) (by decide +kernel), List.mem_of_getElem? (i := 943) (by decide +kernel), List.mem_of_getElem? (i := 944) (by decide +kernel)⟩
theorem lw_p28 : lw_okq (⟨"SeenCoolsModel", "tooWarm", "()I"⟩, 33) := ⟨⟨by decide +kernel, by decide +kernel⟩, List.mem_of_getElem? (i := 712) (by decide +kernel), List.mem_of_getElem? (i := 951) (by decide +kernel), List.mem_of_getElem? (i := 952) (by decide +kernel)⟩
theorem lw_p29 : lw_okq (⟨"SeenCoolsModel", "sumWith", "(II)I"⟩, 33) := ⟨⟨by decide +kernel, by decide +kernel⟩, List.mem_of_getElem? (i := 712) (by decide +kernel), List.mem_of_getElem? (i := 978) (by decide +kernel), List.mem_of_getElem? (i := 979) (by decide +kernel)⟩
theorem lw_p30 : lw_okq (⟨"SeenCoolsModel", "hole", "(I)I"⟩, 33) := ⟨⟨by decide +kernel, by decide +kernel⟩, List.mem_of_getElem? (i := 712) (by decide +kernel), List.mem_of_getElem? (i := 995) (by decide +kernel), List.mem_of_getElem? (i := 996) (by decide +kernel)⟩
theorem lw_p31 : lw_okq (⟨"SeenCoolsModel", "isSo", "()Z"⟩, 33) := ⟨⟨by decide +kernel, by decide +kernel⟩, List.mem_of_getElem? (i := 712) (by decide +kernel), List.mem_of_getElem? (i := 999) (by decide +kernel), List.mem_of_getElem? (i := 1000) (by decide +kernel)⟩
def lw_privs_2 : List (MethodName × Nat) := [(⟨"SeenCoolsModel", "readItem", "()Z"⟩, 33), (⟨"SeenCoolsModel", "readWall", "()Z"⟩, 33), (⟨"SeenCoolsModel", "number", "(II)I"⟩, 33), (⟨"SeenCoolsModel", "readSees", "()Z"⟩, 33), (⟨"SeenCoolsModel", "seen", "([II)I"⟩, 33), (⟨"SeenCoolsModel", "readWork", "()Z"⟩, 33), (⟨"SeenCoolsModel", "takes", "()V"⟩, 33), (⟨"SeenCoolsModel", "isWall", "(I)Z"⟩, 33), (⟨"SeenCoolsModel", "goes", "([IIII)I"⟩, 33), (⟨"SeenCoolsModel", "notes", "(I)V"⟩, 33), (⟨"SeenCoolsModel", "begins", "()V"⟩, 33), (⟨"SeenCoolsModel", "passes", "(III)V"⟩, 33), (⟨"SeenCoolsModel", "tooWarm", "()I"⟩, 33), (⟨"SeenCoolsModel", "sumWith", "(II)I"⟩, 33), (⟨"SeenCoolsModel", "hole", "(I)I"⟩, 33), (⟨"SeenCoolsModel", "isSo", "()Z"⟩, 33)]
theorem lw_r2 : ∀ q ∈ lw_privs_2, lw_okq q := List.forall_mem_cons.mpr ⟨lw_p16, List.forall_mem_cons.mpr ⟨lw_p17, List.forall_mem_cons.mpr ⟨lw_p18, List.forall_mem_cons.mpr ⟨lw_p19, List.forall_mem_cons.mpr ⟨lw_p20, List.forall_mem_cons.mpr ⟨lw_p21, List.forall_mem_cons.mpr ⟨lw_p22, List.forall_mem_cons.mpr ⟨lw_p23, List.forall_mem_cons.mpr ⟨lw_p24, List.forall_mem_cons.mpr ⟨lw_p25, List.forall_mem_cons.mpr ⟨lw_p26, List.forall_mem_cons.mpr ⟨lw_p27, List.forall_mem_cons.mpr ⟨lw_p28, List.forall_mem_cons.mpr ⟨lw_p29, List.forall_mem_cons.mpr ⟨lw_p30, List.forall_mem_cons.mpr ⟨lw_p31, fun _ h => absurd h List.not_mem_nil⟩⟩⟩⟩⟩⟩⟩⟩⟩⟩⟩⟩⟩⟩⟩⟩
def lw_privs : List (MethodName × Nat) := lw_privs_1 ++ (lw_privs_2)
def lw_tbl : List Cond := k2_sels lw_privs ++ tables_1
theorem lw_privs_ok : ∀ q ∈ lw_privs, lw_okq q := by
  show ∀ q ∈ lw_privs_1 ++ (lw_privs_2), lw_okq q
  exact List.forall_mem_append.mpr ⟨lw_r1, lw_r2⟩
end
section
/-! ===== BEGIN words of one list among another's, by their places ===== -/
theorem goodIn_r {big : List Cond} (ws : List Cond) (ps : List Nat) (hp : ws = ps.filterMap (fun i => big[i]?)) (h : ws.all goodWord = true) : GoodIn big ws := by
  intro w hw
  have h1 := List.all_eq_true.mp h w hw
  rw [hp] at hw
  obtain ⟨i, -, hi⟩ := List.mem_filterMap.mp hw
  have hm : w ∈ big := by first | exact List.mem_of_getElem? hi | exact List.getElem?_mem hi
  exact ⟨hm, good_of_word h1⟩
theorem goodIn_app {big a b : List Cond} (ha : GoodIn big a) (hb : GoodIn big b) : GoodIn big (a ++ b) := fun w h => (List.mem_append.mp h).elim (ha w) (hb w)
theorem goodIn_ca {big a b : List Cond} {c : Cond} (ha : GoodIn big (c :: a)) (hb : GoodIn big b) : GoodIn big (c :: (a ++ b)) := fun w h => (List.mem_cons.mp h).elim (fun e => ha w (List.mem_cons.mpr (Or.inl e))) (fun h => (List.mem_append.mp h).elim (fun h => ha w (List.mem_cons.mpr (Or.inr h))) (hb w))
theorem goodIn_sub {big ws : List Cond} (hm : ∀ w ∈ ws, w ∈ big) (h : ws.all goodWord = true) : GoodIn big ws := fun w hw => ⟨hm w hw, good_of_word (List.all_eq_true.mp h w hw)⟩
/-! ===== END ===== -/

/-! ===== BEGIN printed: names, fields, word lists, decode rows ===== -/
def RX0 : String := "SeenCools$Ahead"
def TX0 : u_T := fun k => match k with
  | 0 => ("SeenCools$Ahead", "then", "LSeenCools$Present;", true)
  | 1 => ("SeenCools$Ahead", "asIf", "LSeenCools$Yard;", true)
  | _ => ("SeenCools$Ahead", "round", "[I", true)
def tyX0 : Nat → FieldType := fun k => match k with
  | 0 => .object "SeenCools$Present"
  | 1 => .object "SeenCools$Yard"
  | _ => .array .int
abbrev wsX00 : List Cond := u_ws RX0 TX0 3
theorem nmX0 : ∀ a, a < 3 → ∀ b, b < 3 → a ≠ b → (TX0 a).2.1 ≠ (TX0 b).2.1 := by decide +kernel
theorem tyX0_ok : ∀ k, k < 3 → parseFieldDescriptor (TX0 k).2.2.1 = some (tyX0 k) := by decide +kernel
abbrev cX0_init : ByteArray := prog_2_method_1_code
def yX0_init : MethodName := ⟨RX0, "<init>", "()V"⟩
abbrev cX0_setOut : ByteArray := prog_2_method_2_code
def yX0_setOut : MethodName := ⟨RX0, "setOut", "(LSeenCools$Present;)V"⟩
abbrev cX0_goOn : ByteArray := prog_2_method_3_code
def yX0_goOn : MethodName := ⟨RX0, "goOn", "(LSeenCools$Yard;I)V"⟩
abbrev cX0_hoursToRest : ByteArray := prog_2_method_4_code
def yX0_hoursToRest : MethodName := ⟨RX0, "hoursToRest", "(LSeenCools$Yard;)I"⟩
abbrev cX0_isAsInRow : ByteArray := prog_2_method_5_code
def yX0_isAsInRow : MethodName := ⟨RX0, "isAsInRow", "(II)Z"⟩
abbrev cX0_warmestIfShut : ByteArray := prog_2_method_6_code
def yX0_warmestIfShut : MethodName := ⟨RX0, "warmestIfShut", "(LSeenCools$Present;LSeenCools$Yard;II)I"⟩
abbrev cX0_warmthIfMirrors : ByteArray := prog_2_method_7_code
def yX0_warmthIfMirrors : MethodName := ⟨RX0, "warmthIfMirrors", "(LSeenCools$Present;LSeenCools$Yard;III)I"⟩
abbrev cX0_staysCool : ByteArray := prog_2_method_8_code
def yX0_staysCool : MethodName := ⟨RX0, "staysCool", "(LSeenCools$Present;I)Z"⟩
abbrev cX0_allSeenIsSo : ByteArray := prog_2_method_9_code
def yX0_allSeenIsSo : MethodName := ⟨RX0, "allSeenIsSo", "(LSeenCools$Sights;)Z"⟩
def RX1 : String := "SeenCools$Present"
def TX1 : u_T := fun k => match k with
  | 0 => ("SeenCools$Present", "hours", "I", false)
  | 1 => ("SeenCools$Present", "shutOnes", "I", false)
  | 2 => ("SeenCools$Present", "mirrors", "I", false)
  | 3 => ("SeenCools$Present", "givenToDark", "I", false)
  | 4 => ("SeenCools$Present", "changesKnown", "I", false)
  | 5 => ("SeenCools$Present", "warmth", "[I", true)
  | 6 => ("SeenCools$Present", "warmthThen", "[I", true)
  | _ => ("SeenCools$Present", "changes", "[I", true)
def tyX1 : Nat → FieldType := fun k => match k with
  | 0 => .int
  | 1 => .int
  | 2 => .int
  | 3 => .int
  | 4 => .int
  | 5 => .array .int
  | 6 => .array .int
  | _ => .array .int
abbrev wsX10 : List Cond := u_ws RX1 TX1 8
theorem nmX1 : ∀ a, a < 8 → ∀ b, b < 8 → a ≠ b → (TX1 a).2.1 ≠ (TX1 b).2.1 := by decide +kernel
theorem tyX1_ok : ∀ k, k < 8 → parseFieldDescriptor (TX1 k).2.2.1 = some (tyX1 k) := by decide +kernel
abbrev cX1_init : ByteArray := prog_3_method_1_code
def yX1_init : MethodName := ⟨RX1, "<init>", "()V"⟩
abbrev cX1_begin : ByteArray := prog_3_method_2_code
def yX1_begin : MethodName := ⟨RX1, "begin", "(LSeenCools$Yard;)V"⟩
abbrev cX1_copy : ByteArray := prog_3_method_3_code
def yX1_copy : MethodName := ⟨RX1, "copy", "(LSeenCools$Present;)V"⟩
abbrev cX1_copyWithChanges : ByteArray := prog_3_method_4_code
def yX1_copyWithChanges : MethodName := ⟨RX1, "copyWithChanges", "(LSeenCools$Present;)V"⟩
abbrev cX1_change : ByteArray := prog_3_method_5_code
def yX1_change : MethodName := ⟨RX1, "change", "(I)V"⟩
abbrev cX1_changeBack : ByteArray := prog_3_method_6_code
def yX1_changeBack : MethodName := ⟨RX1, "changeBack", "()V"⟩
abbrev cX1_turn : ByteArray := prog_3_method_7_code
def yX1_turn : MethodName := ⟨RX1, "turn", "(I)V"⟩
abbrev cX1_goBy : ByteArray := prog_3_method_8_code
def yX1_goBy : MethodName := ⟨RX1, "goBy", "(LSeenCools$Yard;)I"⟩
abbrev cX1_giveOff : ByteArray := prog_3_method_9_code
def yX1_giveOff : MethodName := ⟨RX1, "giveOff", "(LSeenCools$Yard;I)I"⟩
abbrev cX1_warmthOfAll : ByteArray := prog_3_method_10_code
def yX1_warmthOfAll : MethodName := ⟨RX1, "warmthOfAll", "(I)I"⟩
abbrev cX1_tooWarm : ByteArray := prog_3_method_11_code
def yX1_tooWarm : MethodName := ⟨RX1, "tooWarm", "(LSeenCools$Yard;)I"⟩
abbrev cX1_warmest : ByteArray := prog_3_method_12_code
def yX1_warmest : MethodName := ⟨RX1, "warmest", "(I)I"⟩
abbrev cX1_warmthOfWarmest : ByteArray := prog_3_method_13_code
def yX1_warmthOfWarmest : MethodName := ⟨RX1, "warmthOfWarmest", "(I)I"⟩
def RX2 : String := "SeenCools$Reader"
def TX2 : u_T := fun k => match k with
  | 0 => ("SeenCools$Reader", "tokens", "LSeenCools$Tokens;", true)
  | 1 => ("SeenCools$Reader", "place", "I", false)
  | 2 => ("SeenCools$Reader", "sort", "I", false)
  | 3 => ("SeenCools$Reader", "value", "I", false)
  | 4 => ("SeenCools$Reader", "next", "I", false)
  | _ => ("SeenCools$Reader", "limitTold", "Z", false)
def tyX2 : Nat → FieldType := fun k => match k with
  | 0 => .object "SeenCools$Tokens"
  | 1 => .int
  | 2 => .int
  | 3 => .int
  | 4 => .int
  | _ => .boolean
abbrev wsX20 : List Cond := u_ws RX2 TX2 6
theorem nmX2 : ∀ a, a < 6 → ∀ b, b < 6 → a ≠ b → (TX2 a).2.1 ≠ (TX2 b).2.1 := by decide +kernel
theorem tyX2_ok : ∀ k, k < 6 → parseFieldDescriptor (TX2 k).2.2.1 = some (tyX2 k) := by decide +kernel
abbrev cX2_init : ByteArray := prog_4_method_1_code
def yX2_init : MethodName := ⟨RX2, "<init>", "()V"⟩
abbrev cX2_readInto : ByteArray := prog_4_method_2_code
def yX2_readInto : MethodName := ⟨RX2, "readInto", "(LSeenCools$Yard;LSeenCools$Text;)I"⟩
abbrev cX2_readToken : ByteArray := prog_4_method_3_code
def yX2_readToken : MethodName := ⟨RX2, "readToken", "()V"⟩
abbrev cX2_readNumber : ByteArray := prog_4_method_4_code
def yX2_readNumber : MethodName := ⟨RX2, "readNumber", "(II)Z"⟩
abbrev cX2_readSemicolon : ByteArray := prog_4_method_5_code
def yX2_readSemicolon : MethodName := ⟨RX2, "readSemicolon", "()Z"⟩
abbrev cX2_readItem : ByteArray := prog_4_method_6_code
def yX2_readItem : MethodName := ⟨RX2, "readItem", "(LSeenCools$Yard;)Z"⟩
abbrev cX2_readWall : ByteArray := prog_4_method_7_code
def yX2_readWall : MethodName := ⟨RX2, "readWall", "(LSeenCools$Yard;)Z"⟩
abbrev cX2_readSees : ByteArray := prog_4_method_8_code
def yX2_readSees : MethodName := ⟨RX2, "readSees", "(LSeenCools$Yard;)Z"⟩
abbrev cX2_readWork : ByteArray := prog_4_method_9_code
def yX2_readWork : MethodName := ⟨RX2, "readWork", "(LSeenCools$Yard;)Z"⟩
abbrev cX2_readLimit : ByteArray := prog_4_method_10_code
def yX2_readLimit : MethodName := ⟨RX2, "readLimit", "(LSeenCools$Yard;)Z"⟩
def RX3 : String := "SeenCools$Sights"
def TX3 : u_T := fun k => match k with
  | 0 => ("SeenCools$Sights", "number", "I", false)
  | 1 => ("SeenCools$Sights", "behindHours", "[I", true)
  | 2 => ("SeenCools$Sights", "which", "[I", true)
  | _ => ("SeenCools$Sights", "warmth", "[I", true)
def tyX3 : Nat → FieldType := fun k => match k with
  | 0 => .int
  | 1 => .array .int
  | 2 => .array .int
  | _ => .array .int
abbrev wsX30 : List Cond := u_ws RX3 TX3 4
theorem nmX3 : ∀ a, a < 4 → ∀ b, b < 4 → a ≠ b → (TX3 a).2.1 ≠ (TX3 b).2.1 := by decide +kernel
theorem tyX3_ok : ∀ k, k < 4 → parseFieldDescriptor (TX3 k).2.2.1 = some (tyX3 k) := by decide +kernel
abbrev cX3_init : ByteArray := prog_5_method_1_code
def yX3_init : MethodName := ⟨RX3, "<init>", "()V"⟩
abbrev cX3_add : ByteArray := prog_5_method_2_code
def yX3_add : MethodName := ⟨RX3, "add", "(III)V"⟩
abbrev cX3_latest : ByteArray := prog_5_method_3_code
def yX3_latest : MethodName := ⟨RX3, "latest", "()I"⟩
abbrev cX3_areSo : ByteArray := prog_5_method_4_code
def yX3_areSo : MethodName := ⟨RX3, "areSo", "(ILSeenCools$Present;)Z"⟩
def RX4 : String := "SeenCools$Text"
def TX4 : u_T := fun k => match k with
  | 0 => ("SeenCools$Text", "bytes", "[B", true)
  | _ => ("SeenCools$Text", "length", "I", false)
def tyX4 : Nat → FieldType := fun k => match k with
  | 0 => .array .byte
  | _ => .int
abbrev wsX40 : List Cond := u_ws RX4 TX4 2
theorem nmX4 : ∀ a, a < 2 → ∀ b, b < 2 → a ≠ b → (TX4 a).2.1 ≠ (TX4 b).2.1 := by decide +kernel
theorem tyX4_ok : ∀ k, k < 2 → parseFieldDescriptor (TX4 k).2.2.1 = some (tyX4 k) := by decide +kernel
abbrev cX4_init : ByteArray := prog_6_method_1_code
def yX4_init : MethodName := ⟨RX4, "<init>", "()V"⟩
abbrev cX4_hasRoomFor : ByteArray := prog_6_method_2_code
def yX4_hasRoomFor : MethodName := ⟨RX4, "hasRoomFor", "(I)Z"⟩
abbrev cX4_append : ByteArray := prog_6_method_3_code
def yX4_append : MethodName := ⟨RX4, "append", "(JI)V"⟩
abbrev cX4_isLetter : ByteArray := prog_6_method_4_code
def yX4_isLetter : MethodName := ⟨RX4, "isLetter", "(I)Z"⟩
abbrev cX4_isDigit : ByteArray := prog_6_method_5_code
def yX4_isDigit : MethodName := ⟨RX4, "isDigit", "(I)Z"⟩
abbrev cX4_isWord : ByteArray := prog_6_method_6_code
def yX4_isWord : MethodName := ⟨RX4, "isWord", "(Ljava/lang/String;II)Z"⟩
def RX5 : String := "SeenCools$Tokens"
def TX5 : u_T := fun k => match k with
  | 0 => ("SeenCools$Tokens", "place", "[I", true)
  | 1 => ("SeenCools$Tokens", "sort", "[I", true)
  | 2 => ("SeenCools$Tokens", "value", "[I", true)
  | _ => ("SeenCools$Tokens", "number", "I", false)
def tyX5 : Nat → FieldType := fun k => match k with
  | 0 => .array .int
  | 1 => .array .int
  | 2 => .array .int
  | _ => .int
abbrev wsX50 : List Cond := u_ws RX5 TX5 4
theorem nmX5 : ∀ a, a < 4 → ∀ b, b < 4 → a ≠ b → (TX5 a).2.1 ≠ (TX5 b).2.1 := by decide +kernel
theorem tyX5_ok : ∀ k, k < 4 → parseFieldDescriptor (TX5 k).2.2.1 = some (tyX5 k) := by decide +kernel
abbrev cX5_init : ByteArray := prog_7_method_1_code
def yX5_init : MethodName := ⟨RX5, "<init>", "()V"⟩
abbrev cX5_cut : ByteArray := prog_7_method_2_code
def yX5_cut : MethodName := ⟨RX5, "cut", "(LSeenCools$Text;)V"⟩
abbrev cX5_skipBlanks : ByteArray := prog_7_method_3_code
def yX5_skipBlanks : MethodName := ⟨RX5, "skipBlanks", "(LSeenCools$Text;I)I"⟩
abbrev cX5_cutOne : ByteArray := prog_7_method_4_code
def yX5_cutOne : MethodName := ⟨RX5, "cutOne", "(LSeenCools$Text;I)I"⟩
abbrev cX5_cutWord : ByteArray := prog_7_method_5_code
def yX5_cutWord : MethodName := ⟨RX5, "cutWord", "(LSeenCools$Text;I)I"⟩
abbrev cX5_whichWord : ByteArray := prog_7_method_6_code
def yX5_whichWord : MethodName := ⟨RX5, "whichWord", "(LSeenCools$Text;II)I"⟩
abbrev cX5_cutNumber : ByteArray := prog_7_method_7_code
def yX5_cutNumber : MethodName := ⟨RX5, "cutNumber", "(LSeenCools$Text;I)I"⟩
abbrev cX5_add : ByteArray := prog_7_method_8_code
def yX5_add : MethodName := ⟨RX5, "add", "(III)V"⟩
def RX6 : String := "SeenCools$Yard"
def TX6 : u_T := fun k => match k with
  | 0 => ("SeenCools$Yard", "number", "I", false)
  | 1 => ("SeenCools$Yard", "limit", "I", false)
  | 2 => ("SeenCools$Yard", "warmth", "[I", true)
  | 3 => ("SeenCools$Yard", "rate", "[I", true)
  | 4 => ("SeenCools$Yard", "work", "[I", true)
  | 5 => ("SeenCools$Yard", "hours", "[I", true)
  | 6 => ("SeenCools$Yard", "parts", "[I", true)
  | 7 => ("SeenCools$Yard", "partsOfAll", "[I", true)
  | _ => ("SeenCools$Yard", "furnace", "[I", true)
def tyX6 : Nat → FieldType := fun k => match k with
  | 0 => .int
  | 1 => .int
  | 2 => .array .int
  | 3 => .array .int
  | 4 => .array .int
  | 5 => .array .int
  | 6 => .array .int
  | 7 => .array .int
  | _ => .array .int
abbrev wsX60 : List Cond := u_ws RX6 TX6 9
theorem nmX6 : ∀ a, a < 9 → ∀ b, b < 9 → a ≠ b → (TX6 a).2.1 ≠ (TX6 b).2.1 := by decide +kernel
theorem tyX6_ok : ∀ k, k < 9 → parseFieldDescriptor (TX6 k).2.2.1 = some (tyX6 k) := by decide +kernel
abbrev cX6_init : ByteArray := prog_8_method_1_code
def yX6_init : MethodName := ⟨RX6, "<init>", "()V"⟩
abbrev cX6_makeEmpty : ByteArray := prog_8_method_2_code
def yX6_makeEmpty : MethodName := ⟨RX6, "makeEmpty", "()V"⟩
abbrev cX6_copy : ByteArray := prog_8_method_3_code
def yX6_copy : MethodName := ⟨RX6, "copy", "(LSeenCools$Yard;)V"⟩
abbrev cX6_hasRoom : ByteArray := prog_8_method_4_code
def yX6_hasRoom : MethodName := ⟨RX6, "hasRoom", "()Z"⟩
abbrev cX6_addWall : ByteArray := prog_8_method_5_code
def yX6_addWall : MethodName := ⟨RX6, "addWall", "(II)V"⟩
abbrev cX6_partsLeft : ByteArray := prog_8_method_6_code
def yX6_partsLeft : MethodName := ⟨RX6, "partsLeft", "(II)I"⟩
abbrev cX6_addParts : ByteArray := prog_8_method_7_code
def yX6_addParts : MethodName := ⟨RX6, "addParts", "(III)V"⟩
abbrev cX6_setLimit : ByteArray := prog_8_method_8_code
def yX6_setLimit : MethodName := ⟨RX6, "setLimit", "(I)V"⟩
abbrev cX6_dark : ByteArray := prog_8_method_9_code
def yX6_dark : MethodName := ⟨RX6, "dark", "(I)I"⟩
def RX7 : String := "SeenCools"
def TX7 : u_T := fun k => match k with
  | 0 => ("SeenCools", "text", "LSeenCools$Text;", true)
  | 1 => ("SeenCools", "reader", "LSeenCools$Reader;", true)
  | 2 => ("SeenCools", "present", "LSeenCools$Present;", true)
  | 3 => ("SeenCools", "sights", "LSeenCools$Sights;", true)
  | 4 => ("SeenCools", "ahead", "LSeenCools$Ahead;", true)
  | 5 => ("SeenCools", "images", "[LSeenCools$Present;", true)
  | 6 => ("SeenCools", "told", "LSeenCools$Yard;", false)
  | 7 => ("SeenCools", "draft", "LSeenCools$Yard;", false)
  | 8 => ("SeenCools", "imagesKept", "I", false)
  | _ => ("SeenCools", "theTrace", "J", false)
def tyX7 : Nat → FieldType := fun k => match k with
  | 0 => .object "SeenCools$Text"
  | 1 => .object "SeenCools$Reader"
  | 2 => .object "SeenCools$Present"
  | 3 => .object "SeenCools$Sights"
  | 4 => .object "SeenCools$Ahead"
  | 5 => .array (.object "SeenCools$Present")
  | 6 => .object "SeenCools$Yard"
  | 7 => .object "SeenCools$Yard"
  | 8 => .int
  | _ => .long
abbrev wsX70 : List Cond := u_ws RX7 TX7 10
theorem nmX7 : ∀ a, a < 10 → ∀ b, b < 10 → a ≠ b → (TX7 a).2.1 ≠ (TX7 b).2.1 := by decide +kernel
theorem tyX7_ok : ∀ k, k < 10 → parseFieldDescriptor (TX7 k).2.2.1 = some (tyX7 k) := by decide +kernel
abbrev cX7_init : ByteArray := prog_1_method_1_code
def yX7_init : MethodName := ⟨RX7, "<init>", "()V"⟩
abbrev cX7_type : ByteArray := prog_1_method_2_code
def yX7_type : MethodName := ⟨RX7, "type", "(JI)I"⟩
abbrev cX7_clear : ByteArray := prog_1_method_3_code
def yX7_clear : MethodName := ⟨RX7, "clear", "()I"⟩
abbrev cX7_walls : ByteArray := prog_1_method_4_code
def yX7_walls : MethodName := ⟨RX7, "walls", "()I"⟩
abbrev cX7_wall : ByteArray := prog_1_method_5_code
def yX7_wall : MethodName := ⟨RX7, "wall", "(II)I"⟩
abbrev cX7_sees : ByteArray := prog_1_method_6_code
def yX7_sees : MethodName := ⟨RX7, "sees", "(II)I"⟩
abbrev cX7_hour : ByteArray := prog_1_method_7_code
def yX7_hour : MethodName := ⟨RX7, "hour", "()I"⟩
abbrev cX7_shut : ByteArray := prog_1_method_8_code
def yX7_shut : MethodName := ⟨RX7, "shut", "(II)I"⟩
abbrev cX7_mirror : ByteArray := prog_1_method_9_code
def yX7_mirror : MethodName := ⟨RX7, "mirror", "(II)I"⟩
abbrev cX7_undo : ByteArray := prog_1_method_10_code
def yX7_undo : MethodName := ⟨RX7, "undo", "()I"⟩
abbrev cX7_now : ByteArray := prog_1_method_11_code
def yX7_now : MethodName := ⟨RX7, "now", "(I)I"⟩
abbrev cX7_behind : ByteArray := prog_1_method_12_code
def yX7_behind : MethodName := ⟨RX7, "behind", "(II)I"⟩
abbrev cX7_first : ByteArray := prog_1_method_13_code
def yX7_first : MethodName := ⟨RX7, "first", "(I)I"⟩
abbrev cX7_rest : ByteArray := prog_1_method_14_code
def yX7_rest : MethodName := ⟨RX7, "rest", "()I"⟩
abbrev cX7_coolest : ByteArray := prog_1_method_15_code
def yX7_coolest : MethodName := ⟨RX7, "coolest", "(II)I"⟩
abbrev cX7_busy : ByteArray := prog_1_method_16_code
def yX7_busy : MethodName := ⟨RX7, "busy", "(II)I"⟩
abbrev cX7_blanket : ByteArray := prog_1_method_17_code
def yX7_blanket : MethodName := ⟨RX7, "blanket", "(III)I"⟩
abbrev cX7_harm : ByteArray := prog_1_method_18_code
def yX7_harm : MethodName := ⟨RX7, "harm", "(II)I"⟩
abbrev cX7_saw : ByteArray := prog_1_method_19_code
def yX7_saw : MethodName := ⟨RX7, "saw", "(III)I"⟩
abbrev cX7_forget : ByteArray := prog_1_method_20_code
def yX7_forget : MethodName := ⟨RX7, "forget", "()I"⟩
abbrev cX7_holes : ByteArray := prog_1_method_21_code
def yX7_holes : MethodName := ⟨RX7, "holes", "(I)I"⟩
abbrev cX7_mark : ByteArray := prog_1_method_22_code
def yX7_mark : MethodName := ⟨RX7, "mark", "(II)I"⟩
abbrev cX7_keep : ByteArray := prog_1_method_23_code
def yX7_keep : MethodName := ⟨RX7, "keep", "(I)I"⟩
abbrev cX7_back : ByteArray := prog_1_method_24_code
def yX7_back : MethodName := ⟨RX7, "back", "(I)I"⟩
abbrev cX7_count : ByteArray := prog_1_method_25_code
def yX7_count : MethodName := ⟨RX7, "count", "(I)I"⟩
abbrev cX7_trace : ByteArray := prog_1_method_26_code
def yX7_trace : MethodName := ⟨RX7, "trace", "()J"⟩
abbrev cX7_isWall : ByteArray := prog_1_method_27_code
def yX7_isWall : MethodName := ⟨RX7, "isWall", "(I)Z"⟩
abbrev cX7_isImage : ByteArray := prog_1_method_28_code
def yX7_isImage : MethodName := ⟨RX7, "isImage", "(I)Z"⟩
abbrev cX7_isBit : ByteArray := prog_1_method_29_code
def yX7_isBit : MethodName := ⟨RX7, "isBit", "(I)Z"⟩
abbrev cX7_isWithin : ByteArray := prog_1_method_30_code
def yX7_isWithin : MethodName := ⟨RX7, "isWithin", "(II)Z"⟩
abbrev cX7_bit : ByteArray := prog_1_method_31_code
def yX7_bit : MethodName := ⟨RX7, "bit", "(II)I"⟩
abbrev cX7_leastOf : ByteArray := prog_1_method_32_code
def yX7_leastOf : MethodName := ⟨RX7, "leastOf", "(I)I"⟩
abbrev cX7_busyHours : ByteArray := prog_1_method_33_code
def yX7_busyHours : MethodName := ⟨RX7, "busyHours", "(II)I"⟩
abbrev cX7_blanketOf : ByteArray := prog_1_method_34_code
def yX7_blanketOf : MethodName := ⟨RX7, "blanketOf", "(IIII)I"⟩
abbrev cX7_harmDone : ByteArray := prog_1_method_35_code
def yX7_harmDone : MethodName := ⟨RX7, "harmDone", "(II)I"⟩
abbrev cX7_leastHarmed : ByteArray := prog_1_method_36_code
def yX7_leastHarmed : MethodName := ⟨RX7, "leastHarmed", "(I)I"⟩
abbrev cX7_holesOfAll : ByteArray := prog_1_method_37_code
def yX7_holesOfAll : MethodName := ⟨RX7, "holesOfAll", "()I"⟩
abbrev cX7_holeRate : ByteArray := prog_1_method_38_code
def yX7_holeRate : MethodName := ⟨RX7, "holeRate", "(I)I"⟩
abbrev cX7_markOfWall : ByteArray := prog_1_method_39_code
def yX7_markOfWall : MethodName := ⟨RX7, "markOfWall", "(I)I"⟩
abbrev cX7_markOfFin : ByteArray := prog_1_method_40_code
def yX7_markOfFin : MethodName := ⟨RX7, "markOfFin", "(I)I"⟩
abbrev cX7_markOfBrick : ByteArray := prog_1_method_41_code
def yX7_markOfBrick : MethodName := ⟨RX7, "markOfBrick", "(I)I"⟩
abbrev cX7_markOfFurnace : ByteArray := prog_1_method_42_code
def yX7_markOfFurnace : MethodName := ⟨RX7, "markOfFurnace", "(I)I"⟩
abbrev cX7_markOfWindow : ByteArray := prog_1_method_43_code
def yX7_markOfWindow : MethodName := ⟨RX7, "markOfWindow", "(I)I"⟩
abbrev cX7_markOfHull : ByteArray := prog_1_method_44_code
def yX7_markOfHull : MethodName := ⟨RX7, "markOfHull", "(I)I"⟩
def RX8 : String := "SeenCoolsModel"
def TX8 : u_T := fun k => match k with
  | 0 => ("SeenCoolsModel", "text", "[I", true)
  | 1 => ("SeenCoolsModel", "size", "I", false)
  | 2 => ("SeenCoolsModel", "at", "I", false)
  | 3 => ("SeenCoolsModel", "begin", "I", false)
  | 4 => ("SeenCoolsModel", "token", "I", false)
  | 5 => ("SeenCoolsModel", "told", "I", false)
  | 6 => ("SeenCoolsModel", "readWalls", "I", false)
  | 7 => ("SeenCoolsModel", "readLimit", "I", false)
  | 8 => ("SeenCoolsModel", "readOf", "[I", true)
  | 9 => ("SeenCoolsModel", "readParts", "[I", true)
  | 10 => ("SeenCoolsModel", "walls", "I", false)
  | 11 => ("SeenCoolsModel", "limit", "I", false)
  | 12 => ("SeenCoolsModel", "first", "[I", true)
  | 13 => ("SeenCoolsModel", "rates", "[I", true)
  | 14 => ("SeenCoolsModel", "works", "[I", true)
  | 15 => ("SeenCoolsModel", "hours", "[I", true)
  | 16 => ("SeenCoolsModel", "parts", "[I", true)
  | 17 => ("SeenCoolsModel", "warm", "[I", true)
  | 18 => ("SeenCoolsModel", "hour", "I", false)
  | 19 => ("SeenCoolsModel", "shut", "I", false)
  | 20 => ("SeenCoolsModel", "mirrors", "I", false)
  | 21 => ("SeenCoolsModel", "given", "I", false)
  | 22 => ("SeenCoolsModel", "then", "[I", true)
  | 23 => ("SeenCoolsModel", "undone", "[I", true)
  | 24 => ("SeenCoolsModel", "undos", "I", false)
  | 25 => ("SeenCoolsModel", "row", "[I", true)
  | 26 => ("SeenCoolsModel", "ahead", "[I", true)
  | 27 => ("SeenCoolsModel", "saws", "I", false)
  | 28 => ("SeenCoolsModel", "sawWhen", "[I", true)
  | 29 => ("SeenCoolsModel", "sawWall", "[I", true)
  | 30 => ("SeenCoolsModel", "sawWarm", "[I", true)
  | 31 => ("SeenCoolsModel", "trace", "J", false)
  | _ => ("SeenCoolsModel", "kept", "[I", true)
def tyX8 : Nat → FieldType := fun k => match k with
  | 0 => .array .int
  | 1 => .int
  | 2 => .int
  | 3 => .int
  | 4 => .int
  | 5 => .int
  | 6 => .int
  | 7 => .int
  | 8 => .array .int
  | 9 => .array .int
  | 10 => .int
  | 11 => .int
  | 12 => .array .int
  | 13 => .array .int
  | 14 => .array .int
  | 15 => .array .int
  | 16 => .array .int
  | 17 => .array .int
  | 18 => .int
  | 19 => .int
  | 20 => .int
  | 21 => .int
  | 22 => .array .int
  | 23 => .array .int
  | 24 => .int
  | 25 => .array .int
  | 26 => .array .int
  | 27 => .int
  | 28 => .array .int
  | 29 => .array .int
  | 30 => .array .int
  | 31 => .long
  | _ => .array .int
abbrev wsX80 : List Cond := u_ws RX8 TX8 33
theorem nmX8 : ∀ a, a < 33 → ∀ b, b < 33 → a ≠ b → (TX8 a).2.1 ≠ (TX8 b).2.1 := by decide +kernel
theorem tyX8_ok : ∀ k, k < 33 → parseFieldDescriptor (TX8 k).2.2.1 = some (tyX8 k) := by decide +kernel
abbrev cX8_in : ByteArray := prog_10_method_2_code
def yX8_in : MethodName := ⟨RX8, "in", "(JJJ)Z"⟩
abbrev cX8_init : ByteArray := prog_10_method_3_code
def yX8_init : MethodName := ⟨RX8, "<init>", "()V"⟩
abbrev cX8_type : ByteArray := prog_10_method_4_code
def yX8_type : MethodName := ⟨RX8, "type", "(JI)I"⟩
abbrev cX8_clear : ByteArray := prog_10_method_5_code
def yX8_clear : MethodName := ⟨RX8, "clear", "()I"⟩
abbrev cX8_isLetter : ByteArray := prog_10_method_6_code
def yX8_isLetter : MethodName := ⟨RX8, "isLetter", "(I)Z"⟩
abbrev cX8_isFigure : ByteArray := prog_10_method_7_code
def yX8_isFigure : MethodName := ⟨RX8, "isFigure", "(I)Z"⟩
abbrev cX8_readWord : ByteArray := prog_10_method_8_code
def yX8_readWord : MethodName := ⟨RX8, "readWord", "()V"⟩
abbrev cX8_readNumber : ByteArray := prog_10_method_9_code
def yX8_readNumber : MethodName := ⟨RX8, "readNumber", "()V"⟩
abbrev cX8_reads : ByteArray := prog_10_method_10_code
def yX8_reads : MethodName := ⟨RX8, "reads", "()V"⟩
abbrev cX8_number : ByteArray := prog_10_method_11_code
def yX8_number : MethodName := ⟨RX8, "number", "(II)I"⟩
abbrev cX8_seen : ByteArray := prog_10_method_12_code
def yX8_seen : MethodName := ⟨RX8, "seen", "([II)I"⟩
abbrev cX8_readWall : ByteArray := prog_10_method_13_code
def yX8_readWall : MethodName := ⟨RX8, "readWall", "()Z"⟩
abbrev cX8_readSees : ByteArray := prog_10_method_14_code
def yX8_readSees : MethodName := ⟨RX8, "readSees", "()Z"⟩
abbrev cX8_readWork : ByteArray := prog_10_method_15_code
def yX8_readWork : MethodName := ⟨RX8, "readWork", "()Z"⟩
abbrev cX8_readItem : ByteArray := prog_10_method_16_code
def yX8_readItem : MethodName := ⟨RX8, "readItem", "()Z"⟩
abbrev cX8_walls : ByteArray := prog_10_method_17_code
def yX8_walls : MethodName := ⟨RX8, "walls", "()I"⟩
abbrev cX8_takes : ByteArray := prog_10_method_18_code
def yX8_takes : MethodName := ⟨RX8, "takes", "()V"⟩
abbrev cX8_isWall : ByteArray := prog_10_method_19_code
def yX8_isWall : MethodName := ⟨RX8, "isWall", "(I)Z"⟩
abbrev cX8_wall : ByteArray := prog_10_method_20_code
def yX8_wall : MethodName := ⟨RX8, "wall", "(II)I"⟩
abbrev cX8_sees : ByteArray := prog_10_method_21_code
def yX8_sees : MethodName := ⟨RX8, "sees", "(II)I"⟩
abbrev cX8_goes : ByteArray := prog_10_method_22_code
def yX8_goes : MethodName := ⟨RX8, "goes", "([IIII)I"⟩
abbrev cX8_hour : ByteArray := prog_10_method_23_code
def yX8_hour : MethodName := ⟨RX8, "hour", "()I"⟩
abbrev cX8_notes : ByteArray := prog_10_method_24_code
def yX8_notes : MethodName := ⟨RX8, "notes", "(I)V"⟩
abbrev cX8_many : ByteArray := prog_10_method_25_code
def yX8_many : MethodName := ⟨RX8, "many", "(I)I"⟩
abbrev cX8_shut : ByteArray := prog_10_method_26_code
def yX8_shut : MethodName := ⟨RX8, "shut", "(II)I"⟩
abbrev cX8_mirror : ByteArray := prog_10_method_27_code
def yX8_mirror : MethodName := ⟨RX8, "mirror", "(II)I"⟩
abbrev cX8_undo : ByteArray := prog_10_method_28_code
def yX8_undo : MethodName := ⟨RX8, "undo", "()I"⟩
abbrev cX8_now : ByteArray := prog_10_method_29_code
def yX8_now : MethodName := ⟨RX8, "now", "(I)I"⟩
abbrev cX8_begins : ByteArray := prog_10_method_30_code
def yX8_begins : MethodName := ⟨RX8, "begins", "()V"⟩
abbrev cX8_passes : ByteArray := prog_10_method_31_code
def yX8_passes : MethodName := ⟨RX8, "passes", "(III)V"⟩
abbrev cX8_behind : ByteArray := prog_10_method_32_code
def yX8_behind : MethodName := ⟨RX8, "behind", "(II)I"⟩
abbrev cX8_tooWarm : ByteArray := prog_10_method_33_code
def yX8_tooWarm : MethodName := ⟨RX8, "tooWarm", "()I"⟩
abbrev cX8_first : ByteArray := prog_10_method_34_code
def yX8_first : MethodName := ⟨RX8, "first", "(I)I"⟩
abbrev cX8_rest : ByteArray := prog_10_method_35_code
def yX8_rest : MethodName := ⟨RX8, "rest", "()I"⟩
abbrev cX8_coolest : ByteArray := prog_10_method_36_code
def yX8_coolest : MethodName := ⟨RX8, "coolest", "(II)I"⟩
abbrev cX8_busy : ByteArray := prog_10_method_37_code
def yX8_busy : MethodName := ⟨RX8, "busy", "(II)I"⟩
abbrev cX8_blanket : ByteArray := prog_10_method_38_code
def yX8_blanket : MethodName := ⟨RX8, "blanket", "(III)I"⟩
abbrev cX8_sumWith : ByteArray := prog_10_method_39_code
def yX8_sumWith : MethodName := ⟨RX8, "sumWith", "(II)I"⟩
abbrev cX8_harm : ByteArray := prog_10_method_40_code
def yX8_harm : MethodName := ⟨RX8, "harm", "(II)I"⟩
abbrev cX8_saw : ByteArray := prog_10_method_41_code
def yX8_saw : MethodName := ⟨RX8, "saw", "(III)I"⟩
abbrev cX8_forget : ByteArray := prog_10_method_42_code
def yX8_forget : MethodName := ⟨RX8, "forget", "()I"⟩
abbrev cX8_isSo : ByteArray := prog_10_method_43_code
def yX8_isSo : MethodName := ⟨RX8, "isSo", "()Z"⟩
abbrev cX8_hole : ByteArray := prog_10_method_44_code
def yX8_hole : MethodName := ⟨RX8, "hole", "(I)I"⟩
abbrev cX8_holes : ByteArray := prog_10_method_45_code
def yX8_holes : MethodName := ⟨RX8, "holes", "(I)I"⟩
abbrev cX8_mark : ByteArray := prog_10_method_46_code
def yX8_mark : MethodName := ⟨RX8, "mark", "(II)I"⟩
abbrev cX8_trace : ByteArray := prog_10_method_47_code
def yX8_trace : MethodName := ⟨RX8, "trace", "()J"⟩
abbrev cX8_keep : ByteArray := prog_10_method_48_code
def yX8_keep : MethodName := ⟨RX8, "keep", "(I)I"⟩
abbrev cX8_back : ByteArray := prog_10_method_49_code
def yX8_back : MethodName := ⟨RX8, "back", "(I)I"⟩
abbrev cX8_count : ByteArray := prog_10_method_50_code
def yX8_count : MethodName := ⟨RX8, "count", "(I)I"⟩
def RJ6 : String := "java/lang/Integer"
def TJ6 : u_T := fun k => match k with
  | _ => ("", "", "", false)
def tyJ6 : Nat → FieldType := fun k => match k with
  | _ => .int
abbrev wsJ60 : List Cond := u_ws RJ6 TJ6 0
theorem nmJ6 : ∀ a, a < 0 → ∀ b, b < 0 → a ≠ b → (TJ6 a).2.1 ≠ (TJ6 b).2.1 := by decide +kernel
theorem tyJ6_ok : ∀ k, k < 0 → parseFieldDescriptor (TJ6 k).2.2.1 = some (tyJ6 k) := by decide +kernel
abbrev cJ6_bitCount_0f7a4 : ByteArray := prog_11_method_49_code
def yJ6_bitCount_0f7a4 : MethodName := ⟨RJ6, "bitCount", "(I)I"⟩
def RJ9 : String := "java/lang/Math"
def TJ9 : u_T := fun k => match k with
  | _ => ("", "", "", false)
def tyJ9 : Nat → FieldType := fun k => match k with
  | _ => .int
abbrev wsJ90 : List Cond := u_ws RJ9 TJ9 0
theorem nmJ9 : ∀ a, a < 0 → ∀ b, b < 0 → a ≠ b → (TJ9 a).2.1 ≠ (TJ9 b).2.1 := by decide +kernel
theorem tyJ9_ok : ∀ k, k < 0 → parseFieldDescriptor (TJ9 k).2.2.1 = some (tyJ9 k) := by decide +kernel
abbrev cJ9_max_7cf53 : ByteArray := prog_12_method_65_code
def yJ9_max_7cf53 : MethodName := ⟨RJ9, "max", "(II)I"⟩
def RJ0 : String := "java/lang/String"
def TJ0 : u_T := fun k => match k with
  | _ => ("", "", "", false)
def tyJ0 : Nat → FieldType := fun k => match k with
  | _ => .int
abbrev wsJ00 : List Cond := u_ws RJ0 TJ0 0
theorem nmJ0 : ∀ a, a < 0 → ∀ b, b < 0 → a ≠ b → (TJ0 a).2.1 ≠ (TJ0 b).2.1 := by decide +kernel
theorem tyJ0_ok : ∀ k, k < 0 → parseFieldDescriptor (TJ0 k).2.2.1 = some (tyJ0 k) := by decide +kernel
abbrev cJ0_length_8abf5 : ByteArray := prog_13_method_54_code
def yJ0_length_8abf5 : MethodName := ⟨RJ0, "length", "()I"⟩
abbrev cJ0_charAt_5068e : ByteArray := prog_13_method_56_code
def yJ0_charAt_5068e : MethodName := ⟨RJ0, "charAt", "(I)C"⟩
abbrev cJ0_coder_7d493 : ByteArray := prog_13_method_152_code
def yJ0_coder_7d493 : MethodName := ⟨RJ0, "coder", "()B"⟩
abbrev cJ0_isLatin1_aae02 : ByteArray := prog_13_method_154_code
def yJ0_isLatin1_aae02 : MethodName := ⟨RJ0, "isLatin1", "()Z"⟩
abbrev cJ0_checkIndex_df160 : ByteArray := prog_13_method_155_code
def yJ0_checkIndex_df160 : MethodName := ⟨RJ0, "checkIndex", "(II)V"⟩
def RJ1 : String := "java/lang/StringLatin1"
def TJ1 : u_T := fun k => match k with
  | _ => ("", "", "", false)
def tyJ1 : Nat → FieldType := fun k => match k with
  | _ => .int
abbrev wsJ10 : List Cond := u_ws RJ1 TJ1 0
theorem nmJ1 : ∀ a, a < 0 → ∀ b, b < 0 → a ≠ b → (TJ1 a).2.1 ≠ (TJ1 b).2.1 := by decide +kernel
theorem tyJ1_ok : ∀ k, k < 0 → parseFieldDescriptor (TJ1 k).2.2.1 = some (tyJ1 k) := by decide +kernel
abbrev cJ1_charAt_3b067 : ByteArray := prog_14_method_2_code
def yJ1_charAt_3b067 : MethodName := ⟨RJ1, "charAt", "([BI)C"⟩
def RJ2 : String := "java/lang/StringUTF16"
def TJ2 : u_T := fun k => match k with
  | _ => ("", "", "", false)
def tyJ2 : Nat → FieldType := fun k => match k with
  | _ => .int
abbrev wsJ20 : List Cond := u_ws RJ2 TJ2 0
theorem nmJ2 : ∀ a, a < 0 → ∀ b, b < 0 → a ≠ b → (TJ2 a).2.1 ≠ (TJ2 b).2.1 := by decide +kernel
theorem tyJ2_ok : ∀ k, k < 0 → parseFieldDescriptor (TJ2 k).2.2.1 = some (tyJ2 k) := by decide +kernel
abbrev cJ2_getChar_3b067 : ByteArray := prog_15_method_5_code
def yJ2_getChar_3b067 : MethodName := ⟨RJ2, "getChar", "([BI)C"⟩
abbrev cJ2_length_9d52b : ByteArray := prog_15_method_6_code
def yJ2_length_9d52b : MethodName := ⟨RJ2, "length", "([B)I"⟩
abbrev cJ2_charAt_3b067 : ByteArray := prog_15_method_83_code
def yJ2_charAt_3b067 : MethodName := ⟨RJ2, "charAt", "([BI)C"⟩
abbrev cJ2_checkIndex_2214a : ByteArray := prog_15_method_91_code
def yJ2_checkIndex_2214a : MethodName := ⟨RJ2, "checkIndex", "(I[B)V"⟩
def RJ3 : String := "jdk/internal/util/Preconditions"
def TJ3 : u_T := fun k => match k with
  | _ => ("", "", "", false)
def tyJ3 : Nat → FieldType := fun k => match k with
  | _ => .int
abbrev wsJ30 : List Cond := u_ws RJ3 TJ3 0
theorem nmJ3 : ∀ a, a < 0 → ∀ b, b < 0 → a ≠ b → (TJ3 a).2.1 ≠ (TJ3 b).2.1 := by decide +kernel
theorem tyJ3_ok : ∀ k, k < 0 → parseFieldDescriptor (TJ3 k).2.2.1 = some (tyJ3 k) := by decide +kernel
abbrev cJ3_checkIndex_8e157 : ByteArray := prog_16_method_11_code
def yJ3_checkIndex_8e157 : MethodName := ⟨RJ3, "checkIndex", "(IILjava/util/function/BiFunction;)I"⟩
def RL : String := "SeenCoolsLaw"
abbrev cL_law : ByteArray := code
def yL_law : MethodName := ⟨RL, "law", "([I)Z"⟩
def wsX1_init : List Cond := .code yX1_init cX1_init 1 none :: ([.methodLink RX1 3 objectInit, .instanceMethod objectInit, .code objectInit ⟨#[0xb1]⟩ 1 none, .arrayClass .int, .fieldLink RX1 9 "SeenCools$Present" "warmth" "[I", .fieldLink RX1 15 "SeenCools$Present" "warmthThen" "[I", .fieldLink RX1 18 "SeenCools$Present" "changes" "[I"] ++ wsX10)
def wsX6_setLimit : List Cond := .code yX6_setLimit cX6_setLimit 2 none :: ([.fieldLink RX6 44 "SeenCools$Yard" "limit" "I"] ++ wsX60)
def wsX6_makeEmpty : List Cond := .code yX6_makeEmpty cX6_makeEmpty 2 none :: ([.fieldLink RX6 36 "SeenCools$Yard" "number" "I", .fieldLink RX6 9 "SeenCools$Yard" "warmth" "[I", .fieldLink RX6 15 "SeenCools$Yard" "rate" "[I", .fieldLink RX6 18 "SeenCools$Yard" "work" "[I", .fieldLink RX6 21 "SeenCools$Yard" "hours" "[I", .fieldLink RX6 27 "SeenCools$Yard" "partsOfAll" "[I", .fieldLink RX6 30 "SeenCools$Yard" "furnace" "[I", .fieldLink RX6 24 "SeenCools$Yard" "parts" "[I", .methodLink RX6 40 yX6_setLimit, .instanceMethod yX6_setLimit, .selects RX6 yX6_setLimit yX6_setLimit, .initialized RX6, .code yX6_setLimit cX6_setLimit 2 none, .fieldLink RX6 44 "SeenCools$Yard" "limit" "I"] ++ wsX60)
def wsX6_init : List Cond := .code yX6_init cX6_init 1 none :: ([.methodLink RX6 3 objectInit, .instanceMethod objectInit, .code objectInit ⟨#[0xb1]⟩ 1 none, .arrayClass .int, .fieldLink RX6 9 "SeenCools$Yard" "warmth" "[I", .fieldLink RX6 15 "SeenCools$Yard" "rate" "[I", .fieldLink RX6 18 "SeenCools$Yard" "work" "[I", .fieldLink RX6 21 "SeenCools$Yard" "hours" "[I", .fieldLink RX6 24 "SeenCools$Yard" "parts" "[I", .fieldLink RX6 27 "SeenCools$Yard" "partsOfAll" "[I", .fieldLink RX6 30 "SeenCools$Yard" "furnace" "[I", .methodLink RX6 33 yX6_makeEmpty, .instanceMethod yX6_makeEmpty, .selects RX6 yX6_makeEmpty yX6_makeEmpty, .initialized RX6, .code yX6_makeEmpty cX6_makeEmpty 2 none, .fieldLink RX6 36 "SeenCools$Yard" "number" "I", .methodLink RX6 40 yX6_setLimit, .instanceMethod yX6_setLimit, .selects RX6 yX6_setLimit yX6_setLimit, .code yX6_setLimit cX6_setLimit 2 none, .fieldLink RX6 44 "SeenCools$Yard" "limit" "I"] ++ wsX60)
def wsX0_init_r1 : List Cond := [Cond.methodLink RX0 3 objectInit, Cond.instanceMethod objectInit, Cond.code objectInit ⟨#[0xb1]⟩ 1 none, Cond.classLink RX0 9 RX1, Cond.instantiable RX1 8, Cond.initialized RX1, Cond.fieldLink RX0 12 "SeenCools$Ahead" "then" "LSeenCools$Present;", Cond.classLink RX0 18 RX6, Cond.instantiable RX6 9, Cond.initialized RX6, Cond.fieldLink RX0 21 "SeenCools$Ahead" "asIf" "LSeenCools$Yard;", Cond.arrayClass .int, Cond.fieldLink RX0 25 "SeenCools$Ahead" "round" "[I", Cond.instanceMethod yX1_init, Cond.code yX1_init cX1_init 1 none, Cond.methodLink RX1 3 objectInit, Cond.fieldLink RX1 9 "SeenCools$Present" "warmth" "[I", Cond.fieldLink RX1 15 "SeenCools$Present" "warmthThen" "[I", Cond.fieldLink RX1 18 "SeenCools$Present" "changes" "[I", Cond.methodLink RX0 20 yX6_init, Cond.instanceMethod yX6_init, Cond.code yX6_init cX6_init 1 none, Cond.methodLink RX6 3 objectInit, Cond.fieldLink RX6 9 "SeenCools$Yard" "warmth" "[I"]
def wsX0_init_r2 : List Cond := [Cond.fieldLink RX6 15 "SeenCools$Yard" "rate" "[I", Cond.fieldLink RX6 18 "SeenCools$Yard" "work" "[I", Cond.fieldLink RX6 21 "SeenCools$Yard" "hours" "[I", Cond.fieldLink RX6 24 "SeenCools$Yard" "parts" "[I", Cond.fieldLink RX6 27 "SeenCools$Yard" "partsOfAll" "[I", Cond.fieldLink RX6 30 "SeenCools$Yard" "furnace" "[I", Cond.methodLink RX6 33 yX6_makeEmpty, Cond.instanceMethod yX6_makeEmpty, Cond.selects RX6 yX6_makeEmpty yX6_makeEmpty, Cond.code yX6_makeEmpty cX6_makeEmpty 2 none, Cond.fieldLink RX6 36 "SeenCools$Yard" "number" "I", Cond.methodLink RX6 40 yX6_setLimit, Cond.instanceMethod yX6_setLimit, Cond.selects RX6 yX6_setLimit yX6_setLimit, Cond.code yX6_setLimit cX6_setLimit 2 none, Cond.fieldLink RX6 44 "SeenCools$Yard" "limit" "I"]
def wsX0_init : List Cond := .code yX0_init cX0_init 1 none :: ((wsX0_init_r1 ++ wsX0_init_r2) ++ wsX10 ++ wsX00 ++ wsX60)
def wsX1_copy : List Cond := .code yX1_copy cX1_copy 3 none :: ([.fieldLink RX1 21 "SeenCools$Present" "hours" "I", .fieldLink RX1 25 "SeenCools$Present" "shutOnes" "I", .fieldLink RX1 28 "SeenCools$Present" "mirrors" "I", .fieldLink RX1 31 "SeenCools$Present" "givenToDark" "I", .fieldLink RX1 9 "SeenCools$Present" "warmth" "[I"] ++ wsX10)
def wsX0_setOut : List Cond := .code yX0_setOut cX0_setOut 2 none :: ([.fieldLink RX0 12 "SeenCools$Ahead" "then" "LSeenCools$Present;", .methodLink RX0 29 yX1_copy, .instanceMethod yX1_copy, .selects RX1 yX1_copy yX1_copy, .initialized RX1, .code yX1_copy cX1_copy 3 none, .fieldLink RX1 21 "SeenCools$Present" "hours" "I", .fieldLink RX1 25 "SeenCools$Present" "shutOnes" "I", .fieldLink RX1 28 "SeenCools$Present" "mirrors" "I", .fieldLink RX1 31 "SeenCools$Present" "givenToDark" "I", .fieldLink RX1 9 "SeenCools$Present" "warmth" "[I"] ++ wsX00 ++ wsX10)
def wsX7_bit : List Cond := .code yX7_bit cX7_bit 2 (some .int) :: ([])
def wsX1_giveOff : List Cond := .code yX1_giveOff cX1_giveOff 7 (some .int) :: ([.fieldLink RX1 25 "SeenCools$Present" "shutOnes" "I", .fieldLink RX1 9 "SeenCools$Present" "warmth" "[I", .fieldLink RX1 67 "SeenCools$Yard" "rate" "[I", .fieldLink RX1 15 "SeenCools$Present" "warmthThen" "[I", .fieldLink RX1 48 "SeenCools$Yard" "number" "I", .fieldLink RX1 70 "SeenCools$Yard" "parts" "[I", .fieldLink RX1 28 "SeenCools$Present" "mirrors" "I", .static yX7_bit, .initialized RX7, .code yX7_bit cX7_bit 2 (some .int)] ++ wsX10 ++ wsX60)
def wsX1_goBy : List Cond := .code yX1_goBy cX1_goBy 5 (some .int) :: ([.fieldLink RX1 21 "SeenCools$Present" "hours" "I", .fieldLink RX1 48 "SeenCools$Yard" "number" "I", .fieldLink RX1 15 "SeenCools$Present" "warmthThen" "[I", .fieldLink RX1 9 "SeenCools$Present" "warmth" "[I", .fieldLink RX1 51 "SeenCools$Yard" "hours" "[I", .fieldLink RX1 57 "SeenCools$Yard" "work" "[I", .fieldLink RX1 60 "SeenCools$Yard" "furnace" "[I", .fieldLink RX1 31 "SeenCools$Present" "givenToDark" "I", .static yX7_bit, .initialized RX7, .code yX7_bit cX7_bit 2 (some .int), .methodLink RX1 63 yX1_giveOff, .instanceMethod yX1_giveOff, .selects RX1 yX1_giveOff yX1_giveOff, .initialized RX1, .code yX1_giveOff cX1_giveOff 7 (some .int), .fieldLink RX1 25 "SeenCools$Present" "shutOnes" "I", .fieldLink RX1 67 "SeenCools$Yard" "rate" "[I", .fieldLink RX1 70 "SeenCools$Yard" "parts" "[I", .fieldLink RX1 28 "SeenCools$Present" "mirrors" "I"] ++ wsX10 ++ wsX60)
def wsX0_goOn_r1 : List Cond := [Cond.fieldLink RX0 12 "SeenCools$Ahead" "then" "LSeenCools$Present;", Cond.methodLink RX0 33 yX1_goBy, Cond.instanceMethod yX1_goBy, Cond.selects RX1 yX1_goBy yX1_goBy, Cond.initialized RX1, Cond.code yX1_goBy cX1_goBy 5 (some .int), Cond.fieldLink RX1 21 "SeenCools$Present" "hours" "I", Cond.fieldLink RX1 48 "SeenCools$Yard" "number" "I", Cond.fieldLink RX1 15 "SeenCools$Present" "warmthThen" "[I", Cond.fieldLink RX1 9 "SeenCools$Present" "warmth" "[I", Cond.fieldLink RX1 51 "SeenCools$Yard" "hours" "[I", Cond.fieldLink RX1 57 "SeenCools$Yard" "work" "[I", Cond.fieldLink RX1 60 "SeenCools$Yard" "furnace" "[I", Cond.fieldLink RX1 31 "SeenCools$Present" "givenToDark" "I", Cond.static yX7_bit, Cond.initialized RX7, Cond.code yX7_bit cX7_bit 2 (some .int), Cond.methodLink RX1 63 yX1_giveOff, Cond.instanceMethod yX1_giveOff, Cond.selects RX1 yX1_giveOff yX1_giveOff, Cond.code yX1_giveOff cX1_giveOff 7 (some .int), Cond.fieldLink RX1 25 "SeenCools$Present" "shutOnes" "I", Cond.fieldLink RX1 67 "SeenCools$Yard" "rate" "[I", Cond.fieldLink RX1 70 "SeenCools$Yard" "parts" "[I"]
def wsX0_goOn_r2 : List Cond := [Cond.fieldLink RX1 28 "SeenCools$Present" "mirrors" "I"]
def wsX0_goOn : List Cond := .code yX0_goOn cX0_goOn 4 none :: ((wsX0_goOn_r1 ++ wsX0_goOn_r2) ++ wsX00 ++ wsX10 ++ wsX60)
def wsX0_isAsInRow : List Cond := .code yX0_isAsInRow cX0_isAsInRow 4 (some .boolean) :: ([.fieldLink RX0 25 "SeenCools$Ahead" "round" "[I", .fieldLink RX0 12 "SeenCools$Ahead" "then" "LSeenCools$Present;", .fieldLink RX0 45 "SeenCools$Present" "warmth" "[I"] ++ wsX00 ++ wsX10)
def wsX0_hoursToRest_r1 : List Cond := [Cond.fieldLink RX0 37 "SeenCools$Yard" "number" "I", Cond.fieldLink RX0 25 "SeenCools$Ahead" "round" "[I", Cond.fieldLink RX0 12 "SeenCools$Ahead" "then" "LSeenCools$Present;", Cond.fieldLink RX0 45 "SeenCools$Present" "warmth" "[I", Cond.methodLink RX0 41 yX0_isAsInRow, Cond.instanceMethod yX0_isAsInRow, Cond.selects RX0 yX0_isAsInRow yX0_isAsInRow, Cond.initialized RX0, Cond.code yX0_isAsInRow cX0_isAsInRow 4 (some .boolean), Cond.methodLink RX0 33 yX1_goBy, Cond.instanceMethod yX1_goBy, Cond.selects RX1 yX1_goBy yX1_goBy, Cond.initialized RX1, Cond.code yX1_goBy cX1_goBy 5 (some .int), Cond.fieldLink RX1 21 "SeenCools$Present" "hours" "I", Cond.fieldLink RX1 48 "SeenCools$Yard" "number" "I", Cond.fieldLink RX1 15 "SeenCools$Present" "warmthThen" "[I", Cond.fieldLink RX1 9 "SeenCools$Present" "warmth" "[I", Cond.fieldLink RX1 51 "SeenCools$Yard" "hours" "[I", Cond.fieldLink RX1 57 "SeenCools$Yard" "work" "[I", Cond.fieldLink RX1 60 "SeenCools$Yard" "furnace" "[I", Cond.fieldLink RX1 31 "SeenCools$Present" "givenToDark" "I", Cond.static yX7_bit, Cond.initialized RX7]
def wsX0_hoursToRest_r2 : List Cond := [Cond.code yX7_bit cX7_bit 2 (some .int), Cond.methodLink RX1 63 yX1_giveOff, Cond.instanceMethod yX1_giveOff, Cond.selects RX1 yX1_giveOff yX1_giveOff, Cond.code yX1_giveOff cX1_giveOff 7 (some .int), Cond.fieldLink RX1 25 "SeenCools$Present" "shutOnes" "I", Cond.fieldLink RX1 67 "SeenCools$Yard" "rate" "[I", Cond.fieldLink RX1 70 "SeenCools$Yard" "parts" "[I", Cond.fieldLink RX1 28 "SeenCools$Present" "mirrors" "I"]
def wsX0_hoursToRest : List Cond := .code yX0_hoursToRest cX0_hoursToRest 5 (some .int) :: ((wsX0_hoursToRest_r1 ++ wsX0_hoursToRest_r2) ++ wsX60 ++ wsX00 ++ wsX10)
def wsX1_warmthOfWarmest : List Cond := .code yX1_warmthOfWarmest cX1_warmthOfWarmest 4 (some .int) :: ([.fieldLink RX1 9 "SeenCools$Present" "warmth" "[I", .methodLink RX1 76 Lib.Math.max.name, .static Lib.Math.max.name, .initialized "java/lang/Math", .code Lib.Math.max.name Lib.Math.max.code 2 (some .int)] ++ wsX10)
def wsX0_warmestIfShut_r1 : List Cond := [Cond.fieldLink RX0 12 "SeenCools$Ahead" "then" "LSeenCools$Present;", Cond.fieldLink RX0 51 "SeenCools$Present" "shutOnes" "I", Cond.fieldLink RX0 37 "SeenCools$Yard" "number" "I", Cond.methodLink RX0 48 yX0_setOut, Cond.instanceMethod yX0_setOut, Cond.selects RX0 yX0_setOut yX0_setOut, Cond.initialized RX0, Cond.code yX0_setOut cX0_setOut 2 none, Cond.methodLink RX0 29 yX1_copy, Cond.instanceMethod yX1_copy, Cond.selects RX1 yX1_copy yX1_copy, Cond.initialized RX1, Cond.code yX1_copy cX1_copy 3 none, Cond.fieldLink RX1 21 "SeenCools$Present" "hours" "I", Cond.fieldLink RX1 25 "SeenCools$Present" "shutOnes" "I", Cond.fieldLink RX1 28 "SeenCools$Present" "mirrors" "I", Cond.fieldLink RX1 31 "SeenCools$Present" "givenToDark" "I", Cond.fieldLink RX1 9 "SeenCools$Present" "warmth" "[I", Cond.methodLink RX0 54 yX0_goOn, Cond.instanceMethod yX0_goOn, Cond.selects RX0 yX0_goOn yX0_goOn, Cond.code yX0_goOn cX0_goOn 4 none, Cond.methodLink RX0 33 yX1_goBy, Cond.instanceMethod yX1_goBy]
def wsX0_warmestIfShut_r2 : List Cond := [Cond.selects RX1 yX1_goBy yX1_goBy, Cond.code yX1_goBy cX1_goBy 5 (some .int), Cond.fieldLink RX1 48 "SeenCools$Yard" "number" "I", Cond.fieldLink RX1 15 "SeenCools$Present" "warmthThen" "[I", Cond.fieldLink RX1 51 "SeenCools$Yard" "hours" "[I", Cond.fieldLink RX1 57 "SeenCools$Yard" "work" "[I", Cond.fieldLink RX1 60 "SeenCools$Yard" "furnace" "[I", Cond.static yX7_bit, Cond.initialized RX7, Cond.code yX7_bit cX7_bit 2 (some .int), Cond.methodLink RX1 63 yX1_giveOff, Cond.instanceMethod yX1_giveOff, Cond.selects RX1 yX1_giveOff yX1_giveOff, Cond.code yX1_giveOff cX1_giveOff 7 (some .int), Cond.fieldLink RX1 67 "SeenCools$Yard" "rate" "[I", Cond.fieldLink RX1 70 "SeenCools$Yard" "parts" "[I", Cond.methodLink RX0 58 yX1_warmthOfWarmest, Cond.instanceMethod yX1_warmthOfWarmest, Cond.selects RX1 yX1_warmthOfWarmest yX1_warmthOfWarmest, Cond.code yX1_warmthOfWarmest cX1_warmthOfWarmest 4 (some .int), Cond.methodLink RX1 76 Lib.Math.max.name, Cond.static Lib.Math.max.name, Cond.initialized "java/lang/Math", Cond.code Lib.Math.max.name Lib.Math.max.code 2 (some .int)]
def wsX0_warmestIfShut : List Cond := .code yX0_warmestIfShut cX0_warmestIfShut 5 (some .int) :: ((wsX0_warmestIfShut_r1 ++ wsX0_warmestIfShut_r2) ++ wsX00 ++ wsX10 ++ wsX60)
def wsX0_warmthIfMirrors_r1 : List Cond := [Cond.fieldLink RX0 12 "SeenCools$Ahead" "then" "LSeenCools$Present;", Cond.fieldLink RX0 62 "SeenCools$Present" "mirrors" "I", Cond.fieldLink RX0 45 "SeenCools$Present" "warmth" "[I", Cond.methodLink RX0 48 yX0_setOut, Cond.instanceMethod yX0_setOut, Cond.selects RX0 yX0_setOut yX0_setOut, Cond.initialized RX0, Cond.code yX0_setOut cX0_setOut 2 none, Cond.methodLink RX0 29 yX1_copy, Cond.instanceMethod yX1_copy, Cond.selects RX1 yX1_copy yX1_copy, Cond.initialized RX1, Cond.code yX1_copy cX1_copy 3 none, Cond.fieldLink RX1 21 "SeenCools$Present" "hours" "I", Cond.fieldLink RX1 25 "SeenCools$Present" "shutOnes" "I", Cond.fieldLink RX1 28 "SeenCools$Present" "mirrors" "I", Cond.fieldLink RX1 31 "SeenCools$Present" "givenToDark" "I", Cond.fieldLink RX1 9 "SeenCools$Present" "warmth" "[I", Cond.methodLink RX0 54 yX0_goOn, Cond.instanceMethod yX0_goOn, Cond.selects RX0 yX0_goOn yX0_goOn, Cond.code yX0_goOn cX0_goOn 4 none, Cond.methodLink RX0 33 yX1_goBy, Cond.instanceMethod yX1_goBy]
def wsX0_warmthIfMirrors_r2 : List Cond := [Cond.selects RX1 yX1_goBy yX1_goBy, Cond.code yX1_goBy cX1_goBy 5 (some .int), Cond.fieldLink RX1 48 "SeenCools$Yard" "number" "I", Cond.fieldLink RX1 15 "SeenCools$Present" "warmthThen" "[I", Cond.fieldLink RX1 51 "SeenCools$Yard" "hours" "[I", Cond.fieldLink RX1 57 "SeenCools$Yard" "work" "[I", Cond.fieldLink RX1 60 "SeenCools$Yard" "furnace" "[I", Cond.static yX7_bit, Cond.initialized RX7, Cond.code yX7_bit cX7_bit 2 (some .int), Cond.methodLink RX1 63 yX1_giveOff, Cond.instanceMethod yX1_giveOff, Cond.selects RX1 yX1_giveOff yX1_giveOff, Cond.code yX1_giveOff cX1_giveOff 7 (some .int), Cond.fieldLink RX1 67 "SeenCools$Yard" "rate" "[I", Cond.fieldLink RX1 70 "SeenCools$Yard" "parts" "[I"]
def wsX0_warmthIfMirrors : List Cond := .code yX0_warmthIfMirrors cX0_warmthIfMirrors 6 (some .int) :: ((wsX0_warmthIfMirrors_r1 ++ wsX0_warmthIfMirrors_r2) ++ wsX00 ++ wsX10 ++ wsX60)
def wsX1_tooWarm : List Cond := .code yX1_tooWarm cX1_tooWarm 4 (some .int) :: ([.fieldLink RX1 48 "SeenCools$Yard" "number" "I", .fieldLink RX1 9 "SeenCools$Present" "warmth" "[I", .fieldLink RX1 73 "SeenCools$Yard" "limit" "I"] ++ wsX60 ++ wsX10)
def wsX0_staysCool_r1 : List Cond := [Cond.fieldLink RX0 12 "SeenCools$Ahead" "then" "LSeenCools$Present;", Cond.fieldLink RX0 21 "SeenCools$Ahead" "asIf" "LSeenCools$Yard;", Cond.methodLink RX0 48 yX0_setOut, Cond.instanceMethod yX0_setOut, Cond.selects RX0 yX0_setOut yX0_setOut, Cond.initialized RX0, Cond.code yX0_setOut cX0_setOut 2 none, Cond.methodLink RX0 29 yX1_copy, Cond.instanceMethod yX1_copy, Cond.selects RX1 yX1_copy yX1_copy, Cond.initialized RX1, Cond.code yX1_copy cX1_copy 3 none, Cond.fieldLink RX1 21 "SeenCools$Present" "hours" "I", Cond.fieldLink RX1 25 "SeenCools$Present" "shutOnes" "I", Cond.fieldLink RX1 28 "SeenCools$Present" "mirrors" "I", Cond.fieldLink RX1 31 "SeenCools$Present" "givenToDark" "I", Cond.fieldLink RX1 9 "SeenCools$Present" "warmth" "[I", Cond.methodLink RX0 33 yX1_goBy, Cond.instanceMethod yX1_goBy, Cond.selects RX1 yX1_goBy yX1_goBy, Cond.code yX1_goBy cX1_goBy 5 (some .int), Cond.fieldLink RX1 48 "SeenCools$Yard" "number" "I", Cond.fieldLink RX1 15 "SeenCools$Present" "warmthThen" "[I", Cond.fieldLink RX1 51 "SeenCools$Yard" "hours" "[I"]
def wsX0_staysCool_r2 : List Cond := [Cond.fieldLink RX1 57 "SeenCools$Yard" "work" "[I", Cond.fieldLink RX1 60 "SeenCools$Yard" "furnace" "[I", Cond.static yX7_bit, Cond.initialized RX7, Cond.code yX7_bit cX7_bit 2 (some .int), Cond.methodLink RX1 63 yX1_giveOff, Cond.instanceMethod yX1_giveOff, Cond.selects RX1 yX1_giveOff yX1_giveOff, Cond.code yX1_giveOff cX1_giveOff 7 (some .int), Cond.fieldLink RX1 67 "SeenCools$Yard" "rate" "[I", Cond.fieldLink RX1 70 "SeenCools$Yard" "parts" "[I", Cond.methodLink RX0 65 yX1_tooWarm, Cond.instanceMethod yX1_tooWarm, Cond.selects RX1 yX1_tooWarm yX1_tooWarm, Cond.code yX1_tooWarm cX1_tooWarm 4 (some .int), Cond.fieldLink RX1 73 "SeenCools$Yard" "limit" "I"]
def wsX0_staysCool : List Cond := .code yX0_staysCool cX0_staysCool 4 (some .boolean) :: ((wsX0_staysCool_r1 ++ wsX0_staysCool_r2) ++ wsX00 ++ wsX10 ++ wsX60)
def wsX1_begin : List Cond := .code yX1_begin cX1_begin 3 none :: ([.fieldLink RX1 21 "SeenCools$Present" "hours" "I", .fieldLink RX1 25 "SeenCools$Present" "shutOnes" "I", .fieldLink RX1 28 "SeenCools$Present" "mirrors" "I", .fieldLink RX1 31 "SeenCools$Present" "givenToDark" "I", .fieldLink RX1 34 "SeenCools$Present" "changesKnown" "I", .fieldLink RX1 9 "SeenCools$Present" "warmth" "[I", .fieldLink RX1 37 "SeenCools$Yard" "warmth" "[I"] ++ wsX10 ++ wsX60)
def wsX3_latest : List Cond := .code yX3_latest cX3_latest 3 (some .int) :: ([.fieldLink RX3 21 "SeenCools$Sights" "number" "I", .fieldLink RX3 9 "SeenCools$Sights" "behindHours" "[I", .methodLink RX3 25 Lib.Math.max.name, .static Lib.Math.max.name, .initialized "java/lang/Math", .code Lib.Math.max.name Lib.Math.max.code 2 (some .int)] ++ wsX30)
def wsX3_areSo : List Cond := .code yX3_areSo cX3_areSo 4 (some .boolean) :: ([.fieldLink RX3 21 "SeenCools$Sights" "number" "I", .fieldLink RX3 9 "SeenCools$Sights" "behindHours" "[I", .fieldLink RX3 31 "SeenCools$Present" "warmth" "[I", .fieldLink RX3 15 "SeenCools$Sights" "which" "[I", .fieldLink RX3 18 "SeenCools$Sights" "warmth" "[I"] ++ wsX30 ++ wsX10)
def wsX0_allSeenIsSo_r1 : List Cond := [Cond.fieldLink RX0 12 "SeenCools$Ahead" "then" "LSeenCools$Present;", Cond.fieldLink RX0 21 "SeenCools$Ahead" "asIf" "LSeenCools$Yard;", Cond.methodLink RX0 68 yX1_begin, Cond.instanceMethod yX1_begin, Cond.selects RX1 yX1_begin yX1_begin, Cond.initialized RX1, Cond.code yX1_begin cX1_begin 3 none, Cond.fieldLink RX1 21 "SeenCools$Present" "hours" "I", Cond.fieldLink RX1 25 "SeenCools$Present" "shutOnes" "I", Cond.fieldLink RX1 28 "SeenCools$Present" "mirrors" "I", Cond.fieldLink RX1 31 "SeenCools$Present" "givenToDark" "I", Cond.fieldLink RX1 34 "SeenCools$Present" "changesKnown" "I", Cond.fieldLink RX1 9 "SeenCools$Present" "warmth" "[I", Cond.fieldLink RX1 37 "SeenCools$Yard" "warmth" "[I", Cond.methodLink RX0 72 yX3_latest, Cond.instanceMethod yX3_latest, Cond.selects RX3 yX3_latest yX3_latest, Cond.initialized RX3, Cond.code yX3_latest cX3_latest 3 (some .int), Cond.fieldLink RX3 21 "SeenCools$Sights" "number" "I", Cond.fieldLink RX3 9 "SeenCools$Sights" "behindHours" "[I", Cond.methodLink RX3 25 Lib.Math.max.name, Cond.static Lib.Math.max.name, Cond.initialized "java/lang/Math"]
def wsX0_allSeenIsSo_r2 : List Cond := [Cond.code Lib.Math.max.name Lib.Math.max.code 2 (some .int), Cond.methodLink RX0 78 yX3_areSo, Cond.instanceMethod yX3_areSo, Cond.selects RX3 yX3_areSo yX3_areSo, Cond.code yX3_areSo cX3_areSo 4 (some .boolean), Cond.fieldLink RX3 31 "SeenCools$Present" "warmth" "[I", Cond.fieldLink RX3 15 "SeenCools$Sights" "which" "[I", Cond.fieldLink RX3 18 "SeenCools$Sights" "warmth" "[I", Cond.methodLink RX0 33 yX1_goBy, Cond.instanceMethod yX1_goBy, Cond.selects RX1 yX1_goBy yX1_goBy, Cond.code yX1_goBy cX1_goBy 5 (some .int), Cond.fieldLink RX1 48 "SeenCools$Yard" "number" "I", Cond.fieldLink RX1 15 "SeenCools$Present" "warmthThen" "[I", Cond.fieldLink RX1 51 "SeenCools$Yard" "hours" "[I", Cond.fieldLink RX1 57 "SeenCools$Yard" "work" "[I", Cond.fieldLink RX1 60 "SeenCools$Yard" "furnace" "[I", Cond.static yX7_bit, Cond.initialized RX7, Cond.code yX7_bit cX7_bit 2 (some .int), Cond.methodLink RX1 63 yX1_giveOff, Cond.instanceMethod yX1_giveOff, Cond.selects RX1 yX1_giveOff yX1_giveOff, Cond.code yX1_giveOff cX1_giveOff 7 (some .int)]
def wsX0_allSeenIsSo_r3 : List Cond := [Cond.fieldLink RX1 67 "SeenCools$Yard" "rate" "[I", Cond.fieldLink RX1 70 "SeenCools$Yard" "parts" "[I"]
def wsX0_allSeenIsSo : List Cond := .code yX0_allSeenIsSo cX0_allSeenIsSo 4 (some .boolean) :: ((wsX0_allSeenIsSo_r1 ++ (wsX0_allSeenIsSo_r2 ++ wsX0_allSeenIsSo_r3)) ++ wsX00 ++ wsX10 ++ wsX60 ++ wsX30)
def wsX1_copyWithChanges : List Cond := .code yX1_copyWithChanges cX1_copyWithChanges 3 none :: ([.fieldLink RX1 34 "SeenCools$Present" "changesKnown" "I", .fieldLink RX1 18 "SeenCools$Present" "changes" "[I", .methodLink RX1 40 yX1_copy, .instanceMethod yX1_copy, .selects RX1 yX1_copy yX1_copy, .initialized RX1, .code yX1_copy cX1_copy 3 none, .fieldLink RX1 21 "SeenCools$Present" "hours" "I", .fieldLink RX1 25 "SeenCools$Present" "shutOnes" "I", .fieldLink RX1 28 "SeenCools$Present" "mirrors" "I", .fieldLink RX1 31 "SeenCools$Present" "givenToDark" "I", .fieldLink RX1 9 "SeenCools$Present" "warmth" "[I"] ++ wsX10)
def wsX1_turn : List Cond := .code yX1_turn cX1_turn 2 none :: ([.fieldLink RX1 25 "SeenCools$Present" "shutOnes" "I", .fieldLink RX1 28 "SeenCools$Present" "mirrors" "I"] ++ wsX10)
def wsX1_change : List Cond := .code yX1_change cX1_change 3 none :: ([.fieldLink RX1 34 "SeenCools$Present" "changesKnown" "I", .fieldLink RX1 18 "SeenCools$Present" "changes" "[I", .methodLink RX1 44 yX1_turn, .instanceMethod yX1_turn, .selects RX1 yX1_turn yX1_turn, .initialized RX1, .code yX1_turn cX1_turn 2 none, .fieldLink RX1 25 "SeenCools$Present" "shutOnes" "I", .fieldLink RX1 28 "SeenCools$Present" "mirrors" "I"] ++ wsX10)
def wsX1_changeBack : List Cond := .code yX1_changeBack cX1_changeBack 1 none :: ([.fieldLink RX1 34 "SeenCools$Present" "changesKnown" "I", .fieldLink RX1 18 "SeenCools$Present" "changes" "[I", .methodLink RX1 44 yX1_turn, .instanceMethod yX1_turn, .selects RX1 yX1_turn yX1_turn, .initialized RX1, .code yX1_turn cX1_turn 2 none, .fieldLink RX1 25 "SeenCools$Present" "shutOnes" "I", .fieldLink RX1 28 "SeenCools$Present" "mirrors" "I"] ++ wsX10)
def wsX1_warmthOfAll : List Cond := .code yX1_warmthOfAll cX1_warmthOfAll 4 (some .int) :: ([.fieldLink RX1 9 "SeenCools$Present" "warmth" "[I"] ++ wsX10)
def wsX1_warmest : List Cond := .code yX1_warmest cX1_warmest 4 (some .int) :: ([.fieldLink RX1 9 "SeenCools$Present" "warmth" "[I"] ++ wsX10)
def wsX5_init : List Cond := .code yX5_init cX5_init 1 none :: ([.methodLink RX5 3 objectInit, .instanceMethod objectInit, .code objectInit ⟨#[0xb1]⟩ 1 none, .arrayClass .int, .fieldLink RX5 11 "SeenCools$Tokens" "place" "[I", .fieldLink RX5 15 "SeenCools$Tokens" "sort" "[I", .fieldLink RX5 18 "SeenCools$Tokens" "value" "[I"] ++ wsX50)
def wsX2_init : List Cond := .code yX2_init cX2_init 1 none :: ([.methodLink RX2 3 objectInit, .instanceMethod objectInit, .code objectInit ⟨#[0xb1]⟩ 1 none, .classLink RX2 9 RX5, .instantiable RX5 4, .initialized RX5, .fieldLink RX2 12 "SeenCools$Reader" "tokens" "LSeenCools$Tokens;", .instanceMethod yX5_init, .code yX5_init cX5_init 1 none, .methodLink RX5 3 objectInit, .arrayClass .int, .fieldLink RX5 11 "SeenCools$Tokens" "place" "[I", .fieldLink RX5 15 "SeenCools$Tokens" "sort" "[I", .fieldLink RX5 18 "SeenCools$Tokens" "value" "[I"] ++ wsX50 ++ wsX20)
def wsX5_skipBlanks : List Cond := .code yX5_skipBlanks cX5_skipBlanks 4 (some .int) :: ([.fieldLink RX5 29 "SeenCools$Text" "length" "I", .fieldLink RX5 39 "SeenCools$Text" "bytes" "[B"] ++ wsX40)
def wsX4_isLetter : List Cond := .code yX4_isLetter cX4_isLetter 2 (some .boolean) :: ([.fieldLink RX4 13 "SeenCools$Text" "length" "I", .fieldLink RX4 9 "SeenCools$Text" "bytes" "[B"] ++ wsX40)
def wsJ0_coder_7d493 : List Cond := .code yJ0_coder_7d493 cJ0_coder_7d493 1 (some .byte) :: ([.fieldLink RJ0 38 "java/lang/String" "COMPACT_STRINGS" "Z", .fieldLink RJ0 15 "java/lang/String" "coder" "B"])
def wsJ0_length_8abf5 : List Cond := .code yJ0_length_8abf5 cJ0_length_8abf5 1 (some .int) :: ([.fieldLink RJ0 9 "java/lang/String" "value" "[B", .methodLink RJ0 335 yJ0_coder_7d493, .instanceMethod yJ0_coder_7d493, .selects RJ0 yJ0_coder_7d493 yJ0_coder_7d493, .initialized RJ0, .code yJ0_coder_7d493 cJ0_coder_7d493 1 (some .byte), .fieldLink RJ0 38 "java/lang/String" "COMPACT_STRINGS" "Z", .fieldLink RJ0 15 "java/lang/String" "coder" "B"])
def wsJ0_isLatin1_aae02 : List Cond := .code yJ0_isLatin1_aae02 cJ0_isLatin1_aae02 1 (some .boolean) :: ([.fieldLink RJ0 38 "java/lang/String" "COMPACT_STRINGS" "Z", .fieldLink RJ0 15 "java/lang/String" "coder" "B"])
def wsJ3_checkIndex_8e157 : List Cond := .code yJ3_checkIndex_8e157 cJ3_checkIndex_8e157 3 (some .int) :: ([])
def wsJ0_checkIndex_df160 : List Cond := .code yJ0_checkIndex_df160 cJ0_checkIndex_df160 2 none :: ([.fieldLink RJ0 1053 "jdk/internal/util/Preconditions" "SIOOBE_FORMATTER" "Ljava/util/function/BiFunction;", .methodLink RJ0 1059 yJ3_checkIndex_8e157, .static yJ3_checkIndex_8e157, .initialized RJ3, .code yJ3_checkIndex_8e157 cJ3_checkIndex_8e157 3 (some .int)])
def wsJ1_charAt_3b067 : List Cond := .code yJ1_charAt_3b067 cJ1_charAt_3b067 2 (some .char) :: ([.methodLink RJ1 9 yJ0_checkIndex_df160, .static yJ0_checkIndex_df160, .initialized RJ0, .code yJ0_checkIndex_df160 cJ0_checkIndex_df160 2 none, .fieldLink RJ0 1053 "jdk/internal/util/Preconditions" "SIOOBE_FORMATTER" "Ljava/util/function/BiFunction;", .methodLink RJ0 1059 yJ3_checkIndex_8e157, .static yJ3_checkIndex_8e157, .initialized RJ3, .code yJ3_checkIndex_8e157 cJ3_checkIndex_8e157 3 (some .int)])
def wsJ2_length_9d52b : List Cond := .code yJ2_length_9d52b cJ2_length_9d52b 1 (some .int) :: ([])
def wsJ2_checkIndex_2214a : List Cond := .code yJ2_checkIndex_2214a cJ2_checkIndex_2214a 2 none :: ([.methodLink RJ2 48 yJ2_length_9d52b, .static yJ2_length_9d52b, .initialized RJ2, .code yJ2_length_9d52b cJ2_length_9d52b 1 (some .int), .methodLink RJ2 414 yJ0_checkIndex_df160, .static yJ0_checkIndex_df160, .initialized RJ0, .code yJ0_checkIndex_df160 cJ0_checkIndex_df160 2 none, .fieldLink RJ0 1053 "jdk/internal/util/Preconditions" "SIOOBE_FORMATTER" "Ljava/util/function/BiFunction;", .methodLink RJ0 1059 yJ3_checkIndex_8e157, .static yJ3_checkIndex_8e157, .initialized RJ3, .code yJ3_checkIndex_8e157 cJ3_checkIndex_8e157 3 (some .int)])
def wsJ2_getChar_3b067 : List Cond := .code yJ2_getChar_3b067 cJ2_getChar_3b067 2 (some .char) :: ([.fieldLink RJ2 44 "java/lang/StringUTF16" "$assertionsDisabled" "Z", .fieldLink RJ2 59 "java/lang/StringUTF16" "HI_BYTE_SHIFT" "I", .fieldLink RJ2 63 "java/lang/StringUTF16" "LO_BYTE_SHIFT" "I", .methodLink RJ2 48 yJ2_length_9d52b, .static yJ2_length_9d52b, .initialized RJ2, .code yJ2_length_9d52b cJ2_length_9d52b 1 (some .int)])
def wsJ2_charAt_3b067 : List Cond := .code yJ2_charAt_3b067 cJ2_charAt_3b067 2 (some .char) :: ([.methodLink RJ2 67 yJ2_checkIndex_2214a, .static yJ2_checkIndex_2214a, .initialized RJ2, .code yJ2_checkIndex_2214a cJ2_checkIndex_2214a 2 none, .methodLink RJ2 48 yJ2_length_9d52b, .static yJ2_length_9d52b, .code yJ2_length_9d52b cJ2_length_9d52b 1 (some .int), .methodLink RJ2 414 yJ0_checkIndex_df160, .static yJ0_checkIndex_df160, .initialized RJ0, .code yJ0_checkIndex_df160 cJ0_checkIndex_df160 2 none, .fieldLink RJ0 1053 "jdk/internal/util/Preconditions" "SIOOBE_FORMATTER" "Ljava/util/function/BiFunction;", .methodLink RJ0 1059 yJ3_checkIndex_8e157, .static yJ3_checkIndex_8e157, .initialized RJ3, .code yJ3_checkIndex_8e157 cJ3_checkIndex_8e157 3 (some .int), .methodLink RJ2 71 yJ2_getChar_3b067, .static yJ2_getChar_3b067, .code yJ2_getChar_3b067 cJ2_getChar_3b067 2 (some .char), .fieldLink RJ2 44 "java/lang/StringUTF16" "$assertionsDisabled" "Z", .fieldLink RJ2 59 "java/lang/StringUTF16" "HI_BYTE_SHIFT" "I", .fieldLink RJ2 63 "java/lang/StringUTF16" "LO_BYTE_SHIFT" "I"])
def wsJ0_charAt_5068e_r1 : List Cond := [Cond.fieldLink RJ0 9 "java/lang/String" "value" "[B", Cond.methodLink RJ0 492 yJ0_isLatin1_aae02, Cond.instanceMethod yJ0_isLatin1_aae02, Cond.selects RJ0 yJ0_isLatin1_aae02 yJ0_isLatin1_aae02, Cond.initialized RJ0, Cond.code yJ0_isLatin1_aae02 cJ0_isLatin1_aae02 1 (some .boolean), Cond.fieldLink RJ0 38 "java/lang/String" "COMPACT_STRINGS" "Z", Cond.fieldLink RJ0 15 "java/lang/String" "coder" "B", Cond.methodLink RJ0 495 yJ1_charAt_3b067, Cond.static yJ1_charAt_3b067, Cond.initialized RJ1, Cond.code yJ1_charAt_3b067 cJ1_charAt_3b067 2 (some .char), Cond.methodLink RJ1 9 yJ0_checkIndex_df160, Cond.static yJ0_checkIndex_df160, Cond.code yJ0_checkIndex_df160 cJ0_checkIndex_df160 2 none, Cond.fieldLink RJ0 1053 "jdk/internal/util/Preconditions" "SIOOBE_FORMATTER" "Ljava/util/function/BiFunction;", Cond.methodLink RJ0 1059 yJ3_checkIndex_8e157, Cond.static yJ3_checkIndex_8e157, Cond.initialized RJ3, Cond.code yJ3_checkIndex_8e157 cJ3_checkIndex_8e157 3 (some .int), Cond.methodLink RJ0 498 yJ2_charAt_3b067, Cond.static yJ2_charAt_3b067, Cond.initialized RJ2, Cond.code yJ2_charAt_3b067 cJ2_charAt_3b067 2 (some .char)]
def wsJ0_charAt_5068e_r2 : List Cond := [Cond.methodLink RJ2 67 yJ2_checkIndex_2214a, Cond.static yJ2_checkIndex_2214a, Cond.code yJ2_checkIndex_2214a cJ2_checkIndex_2214a 2 none, Cond.methodLink RJ2 48 yJ2_length_9d52b, Cond.static yJ2_length_9d52b, Cond.code yJ2_length_9d52b cJ2_length_9d52b 1 (some .int), Cond.methodLink RJ2 414 yJ0_checkIndex_df160, Cond.methodLink RJ2 71 yJ2_getChar_3b067, Cond.static yJ2_getChar_3b067, Cond.code yJ2_getChar_3b067 cJ2_getChar_3b067 2 (some .char), Cond.fieldLink RJ2 44 "java/lang/StringUTF16" "$assertionsDisabled" "Z", Cond.fieldLink RJ2 59 "java/lang/StringUTF16" "HI_BYTE_SHIFT" "I", Cond.fieldLink RJ2 63 "java/lang/StringUTF16" "LO_BYTE_SHIFT" "I"]
def wsJ0_charAt_5068e : List Cond := .code yJ0_charAt_5068e cJ0_charAt_5068e 2 (some .char) :: ((wsJ0_charAt_5068e_r1 ++ wsJ0_charAt_5068e_r2))
def wsX4_isWord_r1 : List Cond := [Cond.fieldLink RX4 9 "SeenCools$Text" "bytes" "[B", Cond.methodLink RX4 17 yJ0_length_8abf5, Cond.instanceMethod yJ0_length_8abf5, Cond.selects RJ0 yJ0_length_8abf5 yJ0_length_8abf5, Cond.initialized RJ0, Cond.code yJ0_length_8abf5 cJ0_length_8abf5 1 (some .int), Cond.fieldLink RJ0 9 "java/lang/String" "value" "[B", Cond.methodLink RJ0 335 yJ0_coder_7d493, Cond.instanceMethod yJ0_coder_7d493, Cond.selects RJ0 yJ0_coder_7d493 yJ0_coder_7d493, Cond.code yJ0_coder_7d493 cJ0_coder_7d493 1 (some .byte), Cond.fieldLink RJ0 38 "java/lang/String" "COMPACT_STRINGS" "Z", Cond.fieldLink RJ0 15 "java/lang/String" "coder" "B", Cond.methodLink RX4 22 yJ0_charAt_5068e, Cond.instanceMethod yJ0_charAt_5068e, Cond.selects RJ0 yJ0_charAt_5068e yJ0_charAt_5068e, Cond.code yJ0_charAt_5068e cJ0_charAt_5068e 2 (some .char), Cond.methodLink RJ0 492 yJ0_isLatin1_aae02, Cond.instanceMethod yJ0_isLatin1_aae02, Cond.selects RJ0 yJ0_isLatin1_aae02 yJ0_isLatin1_aae02, Cond.code yJ0_isLatin1_aae02 cJ0_isLatin1_aae02 1 (some .boolean), Cond.methodLink RJ0 495 yJ1_charAt_3b067, Cond.static yJ1_charAt_3b067, Cond.initialized RJ1]
def wsX4_isWord_r2 : List Cond := [Cond.code yJ1_charAt_3b067 cJ1_charAt_3b067 2 (some .char), Cond.methodLink RJ1 9 yJ0_checkIndex_df160, Cond.static yJ0_checkIndex_df160, Cond.code yJ0_checkIndex_df160 cJ0_checkIndex_df160 2 none, Cond.fieldLink RJ0 1053 "jdk/internal/util/Preconditions" "SIOOBE_FORMATTER" "Ljava/util/function/BiFunction;", Cond.methodLink RJ0 1059 yJ3_checkIndex_8e157, Cond.static yJ3_checkIndex_8e157, Cond.initialized RJ3, Cond.code yJ3_checkIndex_8e157 cJ3_checkIndex_8e157 3 (some .int), Cond.methodLink RJ0 498 yJ2_charAt_3b067, Cond.static yJ2_charAt_3b067, Cond.initialized RJ2, Cond.code yJ2_charAt_3b067 cJ2_charAt_3b067 2 (some .char), Cond.methodLink RJ2 67 yJ2_checkIndex_2214a, Cond.static yJ2_checkIndex_2214a, Cond.code yJ2_checkIndex_2214a cJ2_checkIndex_2214a 2 none, Cond.methodLink RJ2 48 yJ2_length_9d52b, Cond.static yJ2_length_9d52b, Cond.code yJ2_length_9d52b cJ2_length_9d52b 1 (some .int), Cond.methodLink RJ2 414 yJ0_checkIndex_df160, Cond.methodLink RJ2 71 yJ2_getChar_3b067, Cond.static yJ2_getChar_3b067, Cond.code yJ2_getChar_3b067 cJ2_getChar_3b067 2 (some .char), Cond.fieldLink RJ2 44 "java/lang/StringUTF16" "$assertionsDisabled" "Z"]
def wsX4_isWord_r3 : List Cond := [Cond.fieldLink RJ2 59 "java/lang/StringUTF16" "HI_BYTE_SHIFT" "I", Cond.fieldLink RJ2 63 "java/lang/StringUTF16" "LO_BYTE_SHIFT" "I"]
def wsX4_isWord : List Cond := .code yX4_isWord cX4_isWord 5 (some .boolean) :: ((wsX4_isWord_r1 ++ (wsX4_isWord_r2 ++ wsX4_isWord_r3)) ++ wsX40)
def wsX5_whichWord_r1 : List Cond := [Cond.methodLink RX5 62 yX4_isWord, Cond.instanceMethod yX4_isWord, Cond.selects RX4 yX4_isWord yX4_isWord, Cond.initialized RX4, Cond.code yX4_isWord cX4_isWord 5 (some .boolean), Cond.fieldLink RX4 9 "SeenCools$Text" "bytes" "[B", Cond.methodLink RX4 17 yJ0_length_8abf5, Cond.instanceMethod yJ0_length_8abf5, Cond.selects RJ0 yJ0_length_8abf5 yJ0_length_8abf5, Cond.initialized RJ0, Cond.code yJ0_length_8abf5 cJ0_length_8abf5 1 (some .int), Cond.fieldLink RJ0 9 "java/lang/String" "value" "[B", Cond.methodLink RJ0 335 yJ0_coder_7d493, Cond.instanceMethod yJ0_coder_7d493, Cond.selects RJ0 yJ0_coder_7d493 yJ0_coder_7d493, Cond.code yJ0_coder_7d493 cJ0_coder_7d493 1 (some .byte), Cond.fieldLink RJ0 38 "java/lang/String" "COMPACT_STRINGS" "Z", Cond.fieldLink RJ0 15 "java/lang/String" "coder" "B", Cond.methodLink RX4 22 yJ0_charAt_5068e, Cond.instanceMethod yJ0_charAt_5068e, Cond.selects RJ0 yJ0_charAt_5068e yJ0_charAt_5068e, Cond.code yJ0_charAt_5068e cJ0_charAt_5068e 2 (some .char), Cond.methodLink RJ0 492 yJ0_isLatin1_aae02, Cond.instanceMethod yJ0_isLatin1_aae02]
def wsX5_whichWord_r2 : List Cond := [Cond.selects RJ0 yJ0_isLatin1_aae02 yJ0_isLatin1_aae02, Cond.code yJ0_isLatin1_aae02 cJ0_isLatin1_aae02 1 (some .boolean), Cond.methodLink RJ0 495 yJ1_charAt_3b067, Cond.static yJ1_charAt_3b067, Cond.initialized RJ1, Cond.code yJ1_charAt_3b067 cJ1_charAt_3b067 2 (some .char), Cond.methodLink RJ1 9 yJ0_checkIndex_df160, Cond.static yJ0_checkIndex_df160, Cond.code yJ0_checkIndex_df160 cJ0_checkIndex_df160 2 none, Cond.fieldLink RJ0 1053 "jdk/internal/util/Preconditions" "SIOOBE_FORMATTER" "Ljava/util/function/BiFunction;", Cond.methodLink RJ0 1059 yJ3_checkIndex_8e157, Cond.static yJ3_checkIndex_8e157, Cond.initialized RJ3, Cond.code yJ3_checkIndex_8e157 cJ3_checkIndex_8e157 3 (some .int), Cond.methodLink RJ0 498 yJ2_charAt_3b067, Cond.static yJ2_charAt_3b067, Cond.initialized RJ2, Cond.code yJ2_charAt_3b067 cJ2_charAt_3b067 2 (some .char), Cond.methodLink RJ2 67 yJ2_checkIndex_2214a, Cond.static yJ2_checkIndex_2214a, Cond.code yJ2_checkIndex_2214a cJ2_checkIndex_2214a 2 none, Cond.methodLink RJ2 48 yJ2_length_9d52b, Cond.static yJ2_length_9d52b, Cond.code yJ2_length_9d52b cJ2_length_9d52b 1 (some .int)]
def wsX5_whichWord_r3 : List Cond := [Cond.methodLink RJ2 414 yJ0_checkIndex_df160, Cond.methodLink RJ2 71 yJ2_getChar_3b067, Cond.static yJ2_getChar_3b067, Cond.code yJ2_getChar_3b067 cJ2_getChar_3b067 2 (some .char), Cond.fieldLink RJ2 44 "java/lang/StringUTF16" "$assertionsDisabled" "Z", Cond.fieldLink RJ2 59 "java/lang/StringUTF16" "HI_BYTE_SHIFT" "I", Cond.fieldLink RJ2 63 "java/lang/StringUTF16" "LO_BYTE_SHIFT" "I"]
def wsX5_whichWord : List Cond := .code yX5_whichWord cX5_whichWord 4 (some .int) :: ((wsX5_whichWord_r1 ++ (wsX5_whichWord_r2 ++ wsX5_whichWord_r3)) ++ wsX40)
def wsX5_add : List Cond := .code yX5_add cX5_add 4 none :: ([.fieldLink RX5 21 "SeenCools$Tokens" "number" "I", .fieldLink RX5 11 "SeenCools$Tokens" "place" "[I", .fieldLink RX5 15 "SeenCools$Tokens" "sort" "[I", .fieldLink RX5 18 "SeenCools$Tokens" "value" "[I"] ++ wsX50)
def wsX5_cutWord_r1 : List Cond := [Cond.fieldLink RX5 29 "SeenCools$Text" "length" "I", Cond.methodLink RX5 43 yX4_isLetter, Cond.instanceMethod yX4_isLetter, Cond.selects RX4 yX4_isLetter yX4_isLetter, Cond.initialized RX4, Cond.code yX4_isLetter cX4_isLetter 2 (some .boolean), Cond.fieldLink RX4 13 "SeenCools$Text" "length" "I", Cond.fieldLink RX4 9 "SeenCools$Text" "bytes" "[B", Cond.methodLink RX5 56 yX5_whichWord, Cond.instanceMethod yX5_whichWord, Cond.selects RX5 yX5_whichWord yX5_whichWord, Cond.initialized RX5, Cond.code yX5_whichWord cX5_whichWord 4 (some .int), Cond.methodLink RX5 62 yX4_isWord, Cond.instanceMethod yX4_isWord, Cond.selects RX4 yX4_isWord yX4_isWord, Cond.code yX4_isWord cX4_isWord 5 (some .boolean), Cond.methodLink RX4 17 yJ0_length_8abf5, Cond.instanceMethod yJ0_length_8abf5, Cond.selects RJ0 yJ0_length_8abf5 yJ0_length_8abf5, Cond.initialized RJ0, Cond.code yJ0_length_8abf5 cJ0_length_8abf5 1 (some .int), Cond.fieldLink RJ0 9 "java/lang/String" "value" "[B", Cond.methodLink RJ0 335 yJ0_coder_7d493]
def wsX5_cutWord_r2 : List Cond := [Cond.instanceMethod yJ0_coder_7d493, Cond.selects RJ0 yJ0_coder_7d493 yJ0_coder_7d493, Cond.code yJ0_coder_7d493 cJ0_coder_7d493 1 (some .byte), Cond.fieldLink RJ0 38 "java/lang/String" "COMPACT_STRINGS" "Z", Cond.fieldLink RJ0 15 "java/lang/String" "coder" "B", Cond.methodLink RX4 22 yJ0_charAt_5068e, Cond.instanceMethod yJ0_charAt_5068e, Cond.selects RJ0 yJ0_charAt_5068e yJ0_charAt_5068e, Cond.code yJ0_charAt_5068e cJ0_charAt_5068e 2 (some .char), Cond.methodLink RJ0 492 yJ0_isLatin1_aae02, Cond.instanceMethod yJ0_isLatin1_aae02, Cond.selects RJ0 yJ0_isLatin1_aae02 yJ0_isLatin1_aae02, Cond.code yJ0_isLatin1_aae02 cJ0_isLatin1_aae02 1 (some .boolean), Cond.methodLink RJ0 495 yJ1_charAt_3b067, Cond.static yJ1_charAt_3b067, Cond.initialized RJ1, Cond.code yJ1_charAt_3b067 cJ1_charAt_3b067 2 (some .char), Cond.methodLink RJ1 9 yJ0_checkIndex_df160, Cond.static yJ0_checkIndex_df160, Cond.code yJ0_checkIndex_df160 cJ0_checkIndex_df160 2 none, Cond.fieldLink RJ0 1053 "jdk/internal/util/Preconditions" "SIOOBE_FORMATTER" "Ljava/util/function/BiFunction;", Cond.methodLink RJ0 1059 yJ3_checkIndex_8e157, Cond.static yJ3_checkIndex_8e157, Cond.initialized RJ3]
def wsX5_cutWord_r3 : List Cond := [Cond.code yJ3_checkIndex_8e157 cJ3_checkIndex_8e157 3 (some .int), Cond.methodLink RJ0 498 yJ2_charAt_3b067, Cond.static yJ2_charAt_3b067, Cond.initialized RJ2, Cond.code yJ2_charAt_3b067 cJ2_charAt_3b067 2 (some .char), Cond.methodLink RJ2 67 yJ2_checkIndex_2214a, Cond.static yJ2_checkIndex_2214a, Cond.code yJ2_checkIndex_2214a cJ2_checkIndex_2214a 2 none, Cond.methodLink RJ2 48 yJ2_length_9d52b, Cond.static yJ2_length_9d52b, Cond.code yJ2_length_9d52b cJ2_length_9d52b 1 (some .int), Cond.methodLink RJ2 414 yJ0_checkIndex_df160, Cond.methodLink RJ2 71 yJ2_getChar_3b067, Cond.static yJ2_getChar_3b067, Cond.code yJ2_getChar_3b067 cJ2_getChar_3b067 2 (some .char), Cond.fieldLink RJ2 44 "java/lang/StringUTF16" "$assertionsDisabled" "Z", Cond.fieldLink RJ2 59 "java/lang/StringUTF16" "HI_BYTE_SHIFT" "I", Cond.fieldLink RJ2 63 "java/lang/StringUTF16" "LO_BYTE_SHIFT" "I", Cond.methodLink RX5 35 yX5_add, Cond.instanceMethod yX5_add, Cond.selects RX5 yX5_add yX5_add, Cond.code yX5_add cX5_add 4 none, Cond.fieldLink RX5 21 "SeenCools$Tokens" "number" "I", Cond.fieldLink RX5 11 "SeenCools$Tokens" "place" "[I"]
def wsX5_cutWord_r4 : List Cond := [Cond.fieldLink RX5 15 "SeenCools$Tokens" "sort" "[I", Cond.fieldLink RX5 18 "SeenCools$Tokens" "value" "[I"]
def wsX5_cutWord : List Cond := .code yX5_cutWord cX5_cutWord 5 (some .int) :: ((wsX5_cutWord_r1 ++ (wsX5_cutWord_r2 ++ (wsX5_cutWord_r3 ++ wsX5_cutWord_r4))) ++ wsX40 ++ wsX50)
def wsX4_isDigit : List Cond := .code yX4_isDigit cX4_isDigit 2 (some .boolean) :: ([.fieldLink RX4 13 "SeenCools$Text" "length" "I", .fieldLink RX4 9 "SeenCools$Text" "bytes" "[B"] ++ wsX40)
def wsX5_cutNumber : List Cond := .code yX5_cutNumber cX5_cutNumber 7 (some .int) :: ([.fieldLink RX5 29 "SeenCools$Text" "length" "I", .fieldLink RX5 39 "SeenCools$Text" "bytes" "[B", .methodLink RX5 50 yX4_isDigit, .instanceMethod yX4_isDigit, .selects RX4 yX4_isDigit yX4_isDigit, .initialized RX4, .code yX4_isDigit cX4_isDigit 2 (some .boolean), .fieldLink RX4 13 "SeenCools$Text" "length" "I", .fieldLink RX4 9 "SeenCools$Text" "bytes" "[B", .methodLink RX5 35 yX5_add, .instanceMethod yX5_add, .selects RX5 yX5_add yX5_add, .initialized RX5, .code yX5_add cX5_add 4 none, .fieldLink RX5 21 "SeenCools$Tokens" "number" "I", .fieldLink RX5 11 "SeenCools$Tokens" "place" "[I", .fieldLink RX5 15 "SeenCools$Tokens" "sort" "[I", .fieldLink RX5 18 "SeenCools$Tokens" "value" "[I"] ++ wsX40 ++ wsX50)
def wsX5_cutOne_r1 : List Cond := [Cond.fieldLink RX5 39 "SeenCools$Text" "bytes" "[B", Cond.methodLink RX5 43 yX4_isLetter, Cond.instanceMethod yX4_isLetter, Cond.selects RX4 yX4_isLetter yX4_isLetter, Cond.initialized RX4, Cond.code yX4_isLetter cX4_isLetter 2 (some .boolean), Cond.fieldLink RX4 13 "SeenCools$Text" "length" "I", Cond.fieldLink RX4 9 "SeenCools$Text" "bytes" "[B", Cond.methodLink RX5 47 yX5_cutWord, Cond.instanceMethod yX5_cutWord, Cond.selects RX5 yX5_cutWord yX5_cutWord, Cond.initialized RX5, Cond.code yX5_cutWord cX5_cutWord 5 (some .int), Cond.fieldLink RX5 29 "SeenCools$Text" "length" "I", Cond.methodLink RX5 56 yX5_whichWord, Cond.instanceMethod yX5_whichWord, Cond.selects RX5 yX5_whichWord yX5_whichWord, Cond.code yX5_whichWord cX5_whichWord 4 (some .int), Cond.methodLink RX5 62 yX4_isWord, Cond.instanceMethod yX4_isWord, Cond.selects RX4 yX4_isWord yX4_isWord, Cond.code yX4_isWord cX4_isWord 5 (some .boolean), Cond.methodLink RX4 17 yJ0_length_8abf5, Cond.instanceMethod yJ0_length_8abf5]
def wsX5_cutOne_r2 : List Cond := [Cond.selects RJ0 yJ0_length_8abf5 yJ0_length_8abf5, Cond.initialized RJ0, Cond.code yJ0_length_8abf5 cJ0_length_8abf5 1 (some .int), Cond.fieldLink RJ0 9 "java/lang/String" "value" "[B", Cond.methodLink RJ0 335 yJ0_coder_7d493, Cond.instanceMethod yJ0_coder_7d493, Cond.selects RJ0 yJ0_coder_7d493 yJ0_coder_7d493, Cond.code yJ0_coder_7d493 cJ0_coder_7d493 1 (some .byte), Cond.fieldLink RJ0 38 "java/lang/String" "COMPACT_STRINGS" "Z", Cond.fieldLink RJ0 15 "java/lang/String" "coder" "B", Cond.methodLink RX4 22 yJ0_charAt_5068e, Cond.instanceMethod yJ0_charAt_5068e, Cond.selects RJ0 yJ0_charAt_5068e yJ0_charAt_5068e, Cond.code yJ0_charAt_5068e cJ0_charAt_5068e 2 (some .char), Cond.methodLink RJ0 492 yJ0_isLatin1_aae02, Cond.instanceMethod yJ0_isLatin1_aae02, Cond.selects RJ0 yJ0_isLatin1_aae02 yJ0_isLatin1_aae02, Cond.code yJ0_isLatin1_aae02 cJ0_isLatin1_aae02 1 (some .boolean), Cond.methodLink RJ0 495 yJ1_charAt_3b067, Cond.static yJ1_charAt_3b067, Cond.initialized RJ1, Cond.code yJ1_charAt_3b067 cJ1_charAt_3b067 2 (some .char), Cond.methodLink RJ1 9 yJ0_checkIndex_df160, Cond.static yJ0_checkIndex_df160]
def wsX5_cutOne_r3 : List Cond := [Cond.code yJ0_checkIndex_df160 cJ0_checkIndex_df160 2 none, Cond.fieldLink RJ0 1053 "jdk/internal/util/Preconditions" "SIOOBE_FORMATTER" "Ljava/util/function/BiFunction;", Cond.methodLink RJ0 1059 yJ3_checkIndex_8e157, Cond.static yJ3_checkIndex_8e157, Cond.initialized RJ3, Cond.code yJ3_checkIndex_8e157 cJ3_checkIndex_8e157 3 (some .int), Cond.methodLink RJ0 498 yJ2_charAt_3b067, Cond.static yJ2_charAt_3b067, Cond.initialized RJ2, Cond.code yJ2_charAt_3b067 cJ2_charAt_3b067 2 (some .char), Cond.methodLink RJ2 67 yJ2_checkIndex_2214a, Cond.static yJ2_checkIndex_2214a, Cond.code yJ2_checkIndex_2214a cJ2_checkIndex_2214a 2 none, Cond.methodLink RJ2 48 yJ2_length_9d52b, Cond.static yJ2_length_9d52b, Cond.code yJ2_length_9d52b cJ2_length_9d52b 1 (some .int), Cond.methodLink RJ2 414 yJ0_checkIndex_df160, Cond.methodLink RJ2 71 yJ2_getChar_3b067, Cond.static yJ2_getChar_3b067, Cond.code yJ2_getChar_3b067 cJ2_getChar_3b067 2 (some .char), Cond.fieldLink RJ2 44 "java/lang/StringUTF16" "$assertionsDisabled" "Z", Cond.fieldLink RJ2 59 "java/lang/StringUTF16" "HI_BYTE_SHIFT" "I", Cond.fieldLink RJ2 63 "java/lang/StringUTF16" "LO_BYTE_SHIFT" "I", Cond.methodLink RX5 35 yX5_add]
def wsX5_cutOne_r4 : List Cond := [Cond.instanceMethod yX5_add, Cond.selects RX5 yX5_add yX5_add, Cond.code yX5_add cX5_add 4 none, Cond.fieldLink RX5 21 "SeenCools$Tokens" "number" "I", Cond.fieldLink RX5 11 "SeenCools$Tokens" "place" "[I", Cond.fieldLink RX5 15 "SeenCools$Tokens" "sort" "[I", Cond.fieldLink RX5 18 "SeenCools$Tokens" "value" "[I", Cond.methodLink RX5 50 yX4_isDigit, Cond.instanceMethod yX4_isDigit, Cond.selects RX4 yX4_isDigit yX4_isDigit, Cond.code yX4_isDigit cX4_isDigit 2 (some .boolean), Cond.methodLink RX5 53 yX5_cutNumber, Cond.instanceMethod yX5_cutNumber, Cond.selects RX5 yX5_cutNumber yX5_cutNumber, Cond.code yX5_cutNumber cX5_cutNumber 7 (some .int)]
def wsX5_cutOne : List Cond := .code yX5_cutOne cX5_cutOne 3 (some .int) :: ((wsX5_cutOne_r1 ++ (wsX5_cutOne_r2 ++ (wsX5_cutOne_r3 ++ wsX5_cutOne_r4))) ++ wsX40 ++ wsX50)
def wsX5_cut_r1 : List Cond := [Cond.fieldLink RX5 21 "SeenCools$Tokens" "number" "I", Cond.fieldLink RX5 29 "SeenCools$Text" "length" "I", Cond.methodLink RX5 25 yX5_skipBlanks, Cond.instanceMethod yX5_skipBlanks, Cond.selects RX5 yX5_skipBlanks yX5_skipBlanks, Cond.initialized RX5, Cond.code yX5_skipBlanks cX5_skipBlanks 4 (some .int), Cond.fieldLink RX5 39 "SeenCools$Text" "bytes" "[B", Cond.methodLink RX5 32 yX5_cutOne, Cond.instanceMethod yX5_cutOne, Cond.selects RX5 yX5_cutOne yX5_cutOne, Cond.code yX5_cutOne cX5_cutOne 3 (some .int), Cond.methodLink RX5 43 yX4_isLetter, Cond.instanceMethod yX4_isLetter, Cond.selects RX4 yX4_isLetter yX4_isLetter, Cond.initialized RX4, Cond.code yX4_isLetter cX4_isLetter 2 (some .boolean), Cond.fieldLink RX4 13 "SeenCools$Text" "length" "I", Cond.fieldLink RX4 9 "SeenCools$Text" "bytes" "[B", Cond.methodLink RX5 47 yX5_cutWord, Cond.instanceMethod yX5_cutWord, Cond.selects RX5 yX5_cutWord yX5_cutWord, Cond.code yX5_cutWord cX5_cutWord 5 (some .int), Cond.methodLink RX5 56 yX5_whichWord]
def wsX5_cut_r2 : List Cond := [Cond.instanceMethod yX5_whichWord, Cond.selects RX5 yX5_whichWord yX5_whichWord, Cond.code yX5_whichWord cX5_whichWord 4 (some .int), Cond.methodLink RX5 62 yX4_isWord, Cond.instanceMethod yX4_isWord, Cond.selects RX4 yX4_isWord yX4_isWord, Cond.code yX4_isWord cX4_isWord 5 (some .boolean), Cond.methodLink RX4 17 yJ0_length_8abf5, Cond.instanceMethod yJ0_length_8abf5, Cond.selects RJ0 yJ0_length_8abf5 yJ0_length_8abf5, Cond.initialized RJ0, Cond.code yJ0_length_8abf5 cJ0_length_8abf5 1 (some .int), Cond.fieldLink RJ0 9 "java/lang/String" "value" "[B", Cond.methodLink RJ0 335 yJ0_coder_7d493, Cond.instanceMethod yJ0_coder_7d493, Cond.selects RJ0 yJ0_coder_7d493 yJ0_coder_7d493, Cond.code yJ0_coder_7d493 cJ0_coder_7d493 1 (some .byte), Cond.fieldLink RJ0 38 "java/lang/String" "COMPACT_STRINGS" "Z", Cond.fieldLink RJ0 15 "java/lang/String" "coder" "B", Cond.methodLink RX4 22 yJ0_charAt_5068e, Cond.instanceMethod yJ0_charAt_5068e, Cond.selects RJ0 yJ0_charAt_5068e yJ0_charAt_5068e, Cond.code yJ0_charAt_5068e cJ0_charAt_5068e 2 (some .char), Cond.methodLink RJ0 492 yJ0_isLatin1_aae02]
def wsX5_cut_r3 : List Cond := [Cond.instanceMethod yJ0_isLatin1_aae02, Cond.selects RJ0 yJ0_isLatin1_aae02 yJ0_isLatin1_aae02, Cond.code yJ0_isLatin1_aae02 cJ0_isLatin1_aae02 1 (some .boolean), Cond.methodLink RJ0 495 yJ1_charAt_3b067, Cond.static yJ1_charAt_3b067, Cond.initialized RJ1, Cond.code yJ1_charAt_3b067 cJ1_charAt_3b067 2 (some .char), Cond.methodLink RJ1 9 yJ0_checkIndex_df160, Cond.static yJ0_checkIndex_df160, Cond.code yJ0_checkIndex_df160 cJ0_checkIndex_df160 2 none, Cond.fieldLink RJ0 1053 "jdk/internal/util/Preconditions" "SIOOBE_FORMATTER" "Ljava/util/function/BiFunction;", Cond.methodLink RJ0 1059 yJ3_checkIndex_8e157, Cond.static yJ3_checkIndex_8e157, Cond.initialized RJ3, Cond.code yJ3_checkIndex_8e157 cJ3_checkIndex_8e157 3 (some .int), Cond.methodLink RJ0 498 yJ2_charAt_3b067, Cond.static yJ2_charAt_3b067, Cond.initialized RJ2, Cond.code yJ2_charAt_3b067 cJ2_charAt_3b067 2 (some .char), Cond.methodLink RJ2 67 yJ2_checkIndex_2214a, Cond.static yJ2_checkIndex_2214a, Cond.code yJ2_checkIndex_2214a cJ2_checkIndex_2214a 2 none, Cond.methodLink RJ2 48 yJ2_length_9d52b, Cond.static yJ2_length_9d52b]
def wsX5_cut_r4 : List Cond := [Cond.code yJ2_length_9d52b cJ2_length_9d52b 1 (some .int), Cond.methodLink RJ2 414 yJ0_checkIndex_df160, Cond.methodLink RJ2 71 yJ2_getChar_3b067, Cond.static yJ2_getChar_3b067, Cond.code yJ2_getChar_3b067 cJ2_getChar_3b067 2 (some .char), Cond.fieldLink RJ2 44 "java/lang/StringUTF16" "$assertionsDisabled" "Z", Cond.fieldLink RJ2 59 "java/lang/StringUTF16" "HI_BYTE_SHIFT" "I", Cond.fieldLink RJ2 63 "java/lang/StringUTF16" "LO_BYTE_SHIFT" "I", Cond.methodLink RX5 35 yX5_add, Cond.instanceMethod yX5_add, Cond.selects RX5 yX5_add yX5_add, Cond.code yX5_add cX5_add 4 none, Cond.fieldLink RX5 11 "SeenCools$Tokens" "place" "[I", Cond.fieldLink RX5 15 "SeenCools$Tokens" "sort" "[I", Cond.fieldLink RX5 18 "SeenCools$Tokens" "value" "[I", Cond.methodLink RX5 50 yX4_isDigit, Cond.instanceMethod yX4_isDigit, Cond.selects RX4 yX4_isDigit yX4_isDigit, Cond.code yX4_isDigit cX4_isDigit 2 (some .boolean), Cond.methodLink RX5 53 yX5_cutNumber, Cond.instanceMethod yX5_cutNumber, Cond.selects RX5 yX5_cutNumber yX5_cutNumber, Cond.code yX5_cutNumber cX5_cutNumber 7 (some .int)]
def wsX5_cut : List Cond := .code yX5_cut cX5_cut 4 none :: ((wsX5_cut_r1 ++ (wsX5_cut_r2 ++ (wsX5_cut_r3 ++ wsX5_cut_r4))) ++ wsX50 ++ wsX40)
def wsX2_readToken : List Cond := .code yX2_readToken cX2_readToken 1 none :: ([.fieldLink RX2 27 "SeenCools$Reader" "next" "I", .fieldLink RX2 12 "SeenCools$Reader" "tokens" "LSeenCools$Tokens;", .fieldLink RX2 48 "SeenCools$Tokens" "number" "I", .fieldLink RX2 51 "SeenCools$Tokens" "place" "[I", .fieldLink RX2 45 "SeenCools$Reader" "place" "I", .fieldLink RX2 54 "SeenCools$Tokens" "sort" "[I", .fieldLink RX2 38 "SeenCools$Reader" "sort" "I", .fieldLink RX2 56 "SeenCools$Tokens" "value" "[I", .fieldLink RX2 59 "SeenCools$Reader" "value" "I"] ++ wsX20 ++ wsX50)
def wsX6_hasRoom : List Cond := .code yX6_hasRoom cX6_hasRoom 1 (some .boolean) :: ([.fieldLink RX6 36 "SeenCools$Yard" "number" "I"] ++ wsX60)
def wsX2_readNumber : List Cond := .code yX2_readNumber cX2_readNumber 3 (some .boolean) :: ([.fieldLink RX2 38 "SeenCools$Reader" "sort" "I", .fieldLink RX2 59 "SeenCools$Reader" "value" "I", .methodLink RX2 35 yX2_readToken, .instanceMethod yX2_readToken, .selects RX2 yX2_readToken yX2_readToken, .initialized RX2, .code yX2_readToken cX2_readToken 1 none, .fieldLink RX2 27 "SeenCools$Reader" "next" "I", .fieldLink RX2 12 "SeenCools$Reader" "tokens" "LSeenCools$Tokens;", .fieldLink RX2 48 "SeenCools$Tokens" "number" "I", .fieldLink RX2 51 "SeenCools$Tokens" "place" "[I", .fieldLink RX2 45 "SeenCools$Reader" "place" "I", .fieldLink RX2 54 "SeenCools$Tokens" "sort" "[I", .fieldLink RX2 56 "SeenCools$Tokens" "value" "[I"] ++ wsX20 ++ wsX50)
def wsX2_readSemicolon : List Cond := .code yX2_readSemicolon cX2_readSemicolon 1 (some .boolean) :: ([.fieldLink RX2 38 "SeenCools$Reader" "sort" "I", .methodLink RX2 35 yX2_readToken, .instanceMethod yX2_readToken, .selects RX2 yX2_readToken yX2_readToken, .initialized RX2, .code yX2_readToken cX2_readToken 1 none, .fieldLink RX2 27 "SeenCools$Reader" "next" "I", .fieldLink RX2 12 "SeenCools$Reader" "tokens" "LSeenCools$Tokens;", .fieldLink RX2 48 "SeenCools$Tokens" "number" "I", .fieldLink RX2 51 "SeenCools$Tokens" "place" "[I", .fieldLink RX2 45 "SeenCools$Reader" "place" "I", .fieldLink RX2 54 "SeenCools$Tokens" "sort" "[I", .fieldLink RX2 56 "SeenCools$Tokens" "value" "[I", .fieldLink RX2 59 "SeenCools$Reader" "value" "I"] ++ wsX20 ++ wsX50)
def wsX6_addWall : List Cond := .code yX6_addWall cX6_addWall 3 none :: ([.fieldLink RX6 9 "SeenCools$Yard" "warmth" "[I", .fieldLink RX6 36 "SeenCools$Yard" "number" "I", .fieldLink RX6 15 "SeenCools$Yard" "rate" "[I"] ++ wsX60)
def wsX2_readWall_r1 : List Cond := [Cond.fieldLink RX2 59 "SeenCools$Reader" "value" "I", Cond.methodLink RX2 73 yX6_hasRoom, Cond.instanceMethod yX6_hasRoom, Cond.selects RX6 yX6_hasRoom yX6_hasRoom, Cond.initialized RX6, Cond.code yX6_hasRoom cX6_hasRoom 1 (some .boolean), Cond.fieldLink RX6 36 "SeenCools$Yard" "number" "I", Cond.methodLink RX2 77 yX2_readNumber, Cond.instanceMethod yX2_readNumber, Cond.selects RX2 yX2_readNumber yX2_readNumber, Cond.initialized RX2, Cond.code yX2_readNumber cX2_readNumber 3 (some .boolean), Cond.fieldLink RX2 38 "SeenCools$Reader" "sort" "I", Cond.methodLink RX2 35 yX2_readToken, Cond.instanceMethod yX2_readToken, Cond.selects RX2 yX2_readToken yX2_readToken, Cond.code yX2_readToken cX2_readToken 1 none, Cond.fieldLink RX2 27 "SeenCools$Reader" "next" "I", Cond.fieldLink RX2 12 "SeenCools$Reader" "tokens" "LSeenCools$Tokens;", Cond.fieldLink RX2 48 "SeenCools$Tokens" "number" "I", Cond.fieldLink RX2 51 "SeenCools$Tokens" "place" "[I", Cond.fieldLink RX2 45 "SeenCools$Reader" "place" "I", Cond.fieldLink RX2 54 "SeenCools$Tokens" "sort" "[I", Cond.fieldLink RX2 56 "SeenCools$Tokens" "value" "[I"]
def wsX2_readWall_r2 : List Cond := [Cond.methodLink RX2 81 yX2_readSemicolon, Cond.instanceMethod yX2_readSemicolon, Cond.selects RX2 yX2_readSemicolon yX2_readSemicolon, Cond.code yX2_readSemicolon cX2_readSemicolon 1 (some .boolean), Cond.methodLink RX2 84 yX6_addWall, Cond.instanceMethod yX6_addWall, Cond.selects RX6 yX6_addWall yX6_addWall, Cond.code yX6_addWall cX6_addWall 3 none, Cond.fieldLink RX6 9 "SeenCools$Yard" "warmth" "[I", Cond.fieldLink RX6 15 "SeenCools$Yard" "rate" "[I"]
def wsX2_readWall : List Cond := .code yX2_readWall cX2_readWall 4 (some .boolean) :: ((wsX2_readWall_r1 ++ wsX2_readWall_r2) ++ wsX20 ++ wsX60 ++ wsX50)
def wsX6_partsLeft : List Cond := .code yX6_partsLeft cX6_partsLeft 3 (some .int) :: ([.fieldLink RX6 27 "SeenCools$Yard" "partsOfAll" "[I", .methodLink RX6 47 Lib.Math.max.name, .static Lib.Math.max.name, .initialized "java/lang/Math", .code Lib.Math.max.name Lib.Math.max.code 2 (some .int)] ++ wsX60)
def wsX6_addParts : List Cond := .code yX6_addParts cX6_addParts 4 none :: ([.fieldLink RX6 24 "SeenCools$Yard" "parts" "[I", .fieldLink RX6 27 "SeenCools$Yard" "partsOfAll" "[I"] ++ wsX60)
def wsX2_readSees_r1 : List Cond := [Cond.fieldLink RX2 88 "SeenCools$Yard" "number" "I", Cond.fieldLink RX2 59 "SeenCools$Reader" "value" "I", Cond.methodLink RX2 77 yX2_readNumber, Cond.instanceMethod yX2_readNumber, Cond.selects RX2 yX2_readNumber yX2_readNumber, Cond.initialized RX2, Cond.code yX2_readNumber cX2_readNumber 3 (some .boolean), Cond.fieldLink RX2 38 "SeenCools$Reader" "sort" "I", Cond.methodLink RX2 35 yX2_readToken, Cond.instanceMethod yX2_readToken, Cond.selects RX2 yX2_readToken yX2_readToken, Cond.code yX2_readToken cX2_readToken 1 none, Cond.fieldLink RX2 27 "SeenCools$Reader" "next" "I", Cond.fieldLink RX2 12 "SeenCools$Reader" "tokens" "LSeenCools$Tokens;", Cond.fieldLink RX2 48 "SeenCools$Tokens" "number" "I", Cond.fieldLink RX2 51 "SeenCools$Tokens" "place" "[I", Cond.fieldLink RX2 45 "SeenCools$Reader" "place" "I", Cond.fieldLink RX2 54 "SeenCools$Tokens" "sort" "[I", Cond.fieldLink RX2 56 "SeenCools$Tokens" "value" "[I", Cond.methodLink RX2 89 yX6_partsLeft, Cond.instanceMethod yX6_partsLeft, Cond.selects RX6 yX6_partsLeft yX6_partsLeft, Cond.initialized RX6, Cond.code yX6_partsLeft cX6_partsLeft 3 (some .int)]
def wsX2_readSees_r2 : List Cond := [Cond.fieldLink RX6 27 "SeenCools$Yard" "partsOfAll" "[I", Cond.methodLink RX6 47 Lib.Math.max.name, Cond.static Lib.Math.max.name, Cond.initialized "java/lang/Math", Cond.code Lib.Math.max.name Lib.Math.max.code 2 (some .int), Cond.methodLink RX2 81 yX2_readSemicolon, Cond.instanceMethod yX2_readSemicolon, Cond.selects RX2 yX2_readSemicolon yX2_readSemicolon, Cond.code yX2_readSemicolon cX2_readSemicolon 1 (some .boolean), Cond.methodLink RX2 93 yX6_addParts, Cond.instanceMethod yX6_addParts, Cond.selects RX6 yX6_addParts yX6_addParts, Cond.code yX6_addParts cX6_addParts 4 none, Cond.fieldLink RX6 24 "SeenCools$Yard" "parts" "[I"]
def wsX2_readSees : List Cond := .code yX2_readSees cX2_readSees 5 (some .boolean) :: ((wsX2_readSees_r1 ++ wsX2_readSees_r2) ++ wsX60 ++ wsX20 ++ wsX50)
def wsX2_readWork_r1 : List Cond := [Cond.fieldLink RX2 88 "SeenCools$Yard" "number" "I", Cond.fieldLink RX2 59 "SeenCools$Reader" "value" "I", Cond.fieldLink RX2 97 "SeenCools$Yard" "work" "[I", Cond.fieldLink RX2 100 "SeenCools$Yard" "hours" "[I", Cond.methodLink RX2 77 yX2_readNumber, Cond.instanceMethod yX2_readNumber, Cond.selects RX2 yX2_readNumber yX2_readNumber, Cond.initialized RX2, Cond.code yX2_readNumber cX2_readNumber 3 (some .boolean), Cond.fieldLink RX2 38 "SeenCools$Reader" "sort" "I", Cond.methodLink RX2 35 yX2_readToken, Cond.instanceMethod yX2_readToken, Cond.selects RX2 yX2_readToken yX2_readToken, Cond.code yX2_readToken cX2_readToken 1 none, Cond.fieldLink RX2 27 "SeenCools$Reader" "next" "I", Cond.fieldLink RX2 12 "SeenCools$Reader" "tokens" "LSeenCools$Tokens;", Cond.fieldLink RX2 48 "SeenCools$Tokens" "number" "I", Cond.fieldLink RX2 51 "SeenCools$Tokens" "place" "[I", Cond.fieldLink RX2 45 "SeenCools$Reader" "place" "I", Cond.fieldLink RX2 54 "SeenCools$Tokens" "sort" "[I", Cond.fieldLink RX2 56 "SeenCools$Tokens" "value" "[I", Cond.methodLink RX2 81 yX2_readSemicolon, Cond.instanceMethod yX2_readSemicolon, Cond.selects RX2 yX2_readSemicolon yX2_readSemicolon]
def wsX2_readWork_r2 : List Cond := [Cond.code yX2_readSemicolon cX2_readSemicolon 1 (some .boolean)]
def wsX2_readWork : List Cond := .code yX2_readWork cX2_readWork 5 (some .boolean) :: ((wsX2_readWork_r1 ++ wsX2_readWork_r2) ++ wsX60 ++ wsX20 ++ wsX50)
def wsX2_readLimit_r1 : List Cond := [Cond.fieldLink RX2 31 "SeenCools$Reader" "limitTold" "Z", Cond.fieldLink RX2 59 "SeenCools$Reader" "value" "I", Cond.methodLink RX2 77 yX2_readNumber, Cond.instanceMethod yX2_readNumber, Cond.selects RX2 yX2_readNumber yX2_readNumber, Cond.initialized RX2, Cond.code yX2_readNumber cX2_readNumber 3 (some .boolean), Cond.fieldLink RX2 38 "SeenCools$Reader" "sort" "I", Cond.methodLink RX2 35 yX2_readToken, Cond.instanceMethod yX2_readToken, Cond.selects RX2 yX2_readToken yX2_readToken, Cond.code yX2_readToken cX2_readToken 1 none, Cond.fieldLink RX2 27 "SeenCools$Reader" "next" "I", Cond.fieldLink RX2 12 "SeenCools$Reader" "tokens" "LSeenCools$Tokens;", Cond.fieldLink RX2 48 "SeenCools$Tokens" "number" "I", Cond.fieldLink RX2 51 "SeenCools$Tokens" "place" "[I", Cond.fieldLink RX2 45 "SeenCools$Reader" "place" "I", Cond.fieldLink RX2 54 "SeenCools$Tokens" "sort" "[I", Cond.fieldLink RX2 56 "SeenCools$Tokens" "value" "[I", Cond.methodLink RX2 81 yX2_readSemicolon, Cond.instanceMethod yX2_readSemicolon, Cond.selects RX2 yX2_readSemicolon yX2_readSemicolon, Cond.code yX2_readSemicolon cX2_readSemicolon 1 (some .boolean), Cond.methodLink RX2 103 yX6_setLimit]
def wsX2_readLimit_r2 : List Cond := [Cond.instanceMethod yX6_setLimit, Cond.selects RX6 yX6_setLimit yX6_setLimit, Cond.initialized RX6, Cond.code yX6_setLimit cX6_setLimit 2 none, Cond.fieldLink RX6 44 "SeenCools$Yard" "limit" "I"]
def wsX2_readLimit : List Cond := .code yX2_readLimit cX2_readLimit 3 (some .boolean) :: ((wsX2_readLimit_r1 ++ wsX2_readLimit_r2) ++ wsX20 ++ wsX50 ++ wsX60)
def wsX2_readItem_r1 : List Cond := [Cond.fieldLink RX2 38 "SeenCools$Reader" "sort" "I", Cond.fieldLink RX2 59 "SeenCools$Reader" "value" "I", Cond.methodLink RX2 61 yX2_readWall, Cond.instanceMethod yX2_readWall, Cond.selects RX2 yX2_readWall yX2_readWall, Cond.initialized RX2, Cond.code yX2_readWall cX2_readWall 4 (some .boolean), Cond.methodLink RX2 73 yX6_hasRoom, Cond.instanceMethod yX6_hasRoom, Cond.selects RX6 yX6_hasRoom yX6_hasRoom, Cond.initialized RX6, Cond.code yX6_hasRoom cX6_hasRoom 1 (some .boolean), Cond.fieldLink RX6 36 "SeenCools$Yard" "number" "I", Cond.methodLink RX2 77 yX2_readNumber, Cond.instanceMethod yX2_readNumber, Cond.selects RX2 yX2_readNumber yX2_readNumber, Cond.code yX2_readNumber cX2_readNumber 3 (some .boolean), Cond.methodLink RX2 35 yX2_readToken, Cond.instanceMethod yX2_readToken, Cond.selects RX2 yX2_readToken yX2_readToken, Cond.code yX2_readToken cX2_readToken 1 none, Cond.fieldLink RX2 27 "SeenCools$Reader" "next" "I", Cond.fieldLink RX2 12 "SeenCools$Reader" "tokens" "LSeenCools$Tokens;", Cond.fieldLink RX2 48 "SeenCools$Tokens" "number" "I"]
def wsX2_readItem_r2 : List Cond := [Cond.fieldLink RX2 51 "SeenCools$Tokens" "place" "[I", Cond.fieldLink RX2 45 "SeenCools$Reader" "place" "I", Cond.fieldLink RX2 54 "SeenCools$Tokens" "sort" "[I", Cond.fieldLink RX2 56 "SeenCools$Tokens" "value" "[I", Cond.methodLink RX2 81 yX2_readSemicolon, Cond.instanceMethod yX2_readSemicolon, Cond.selects RX2 yX2_readSemicolon yX2_readSemicolon, Cond.code yX2_readSemicolon cX2_readSemicolon 1 (some .boolean), Cond.methodLink RX2 84 yX6_addWall, Cond.instanceMethod yX6_addWall, Cond.selects RX6 yX6_addWall yX6_addWall, Cond.code yX6_addWall cX6_addWall 3 none, Cond.fieldLink RX6 9 "SeenCools$Yard" "warmth" "[I", Cond.fieldLink RX6 15 "SeenCools$Yard" "rate" "[I", Cond.methodLink RX2 64 yX2_readSees, Cond.instanceMethod yX2_readSees, Cond.selects RX2 yX2_readSees yX2_readSees, Cond.code yX2_readSees cX2_readSees 5 (some .boolean), Cond.fieldLink RX2 88 "SeenCools$Yard" "number" "I", Cond.methodLink RX2 89 yX6_partsLeft, Cond.instanceMethod yX6_partsLeft, Cond.selects RX6 yX6_partsLeft yX6_partsLeft, Cond.code yX6_partsLeft cX6_partsLeft 3 (some .int), Cond.fieldLink RX6 27 "SeenCools$Yard" "partsOfAll" "[I"]
def wsX2_readItem_r3 : List Cond := [Cond.methodLink RX6 47 Lib.Math.max.name, Cond.static Lib.Math.max.name, Cond.initialized "java/lang/Math", Cond.code Lib.Math.max.name Lib.Math.max.code 2 (some .int), Cond.methodLink RX2 93 yX6_addParts, Cond.instanceMethod yX6_addParts, Cond.selects RX6 yX6_addParts yX6_addParts, Cond.code yX6_addParts cX6_addParts 4 none, Cond.fieldLink RX6 24 "SeenCools$Yard" "parts" "[I", Cond.methodLink RX2 67 yX2_readWork, Cond.instanceMethod yX2_readWork, Cond.selects RX2 yX2_readWork yX2_readWork, Cond.code yX2_readWork cX2_readWork 5 (some .boolean), Cond.fieldLink RX2 97 "SeenCools$Yard" "work" "[I", Cond.fieldLink RX2 100 "SeenCools$Yard" "hours" "[I", Cond.methodLink RX2 70 yX2_readLimit, Cond.instanceMethod yX2_readLimit, Cond.selects RX2 yX2_readLimit yX2_readLimit, Cond.code yX2_readLimit cX2_readLimit 3 (some .boolean), Cond.fieldLink RX2 31 "SeenCools$Reader" "limitTold" "Z", Cond.methodLink RX2 103 yX6_setLimit, Cond.instanceMethod yX6_setLimit, Cond.selects RX6 yX6_setLimit yX6_setLimit, Cond.code yX6_setLimit cX6_setLimit 2 none]
def wsX2_readItem_r4 : List Cond := [Cond.fieldLink RX6 44 "SeenCools$Yard" "limit" "I"]
def wsX2_readItem : List Cond := .code yX2_readItem cX2_readItem 2 (some .boolean) :: ((wsX2_readItem_r1 ++ (wsX2_readItem_r2 ++ (wsX2_readItem_r3 ++ wsX2_readItem_r4))) ++ wsX20 ++ wsX60 ++ wsX50)
def wsX2_readInto_r1 : List Cond := [Cond.fieldLink RX2 12 "SeenCools$Reader" "tokens" "LSeenCools$Tokens;", Cond.fieldLink RX2 27 "SeenCools$Reader" "next" "I", Cond.fieldLink RX2 31 "SeenCools$Reader" "limitTold" "Z", Cond.fieldLink RX2 38 "SeenCools$Reader" "sort" "I", Cond.fieldLink RX2 45 "SeenCools$Reader" "place" "I", Cond.methodLink RX2 18 yX5_cut, Cond.instanceMethod yX5_cut, Cond.selects RX5 yX5_cut yX5_cut, Cond.initialized RX5, Cond.code yX5_cut cX5_cut 4 none, Cond.fieldLink RX5 21 "SeenCools$Tokens" "number" "I", Cond.fieldLink RX5 29 "SeenCools$Text" "length" "I", Cond.methodLink RX5 25 yX5_skipBlanks, Cond.instanceMethod yX5_skipBlanks, Cond.selects RX5 yX5_skipBlanks yX5_skipBlanks, Cond.code yX5_skipBlanks cX5_skipBlanks 4 (some .int), Cond.fieldLink RX5 39 "SeenCools$Text" "bytes" "[B", Cond.methodLink RX5 32 yX5_cutOne, Cond.instanceMethod yX5_cutOne, Cond.selects RX5 yX5_cutOne yX5_cutOne, Cond.code yX5_cutOne cX5_cutOne 3 (some .int), Cond.methodLink RX5 43 yX4_isLetter, Cond.instanceMethod yX4_isLetter, Cond.selects RX4 yX4_isLetter yX4_isLetter]
def wsX2_readInto_r2 : List Cond := [Cond.initialized RX4, Cond.code yX4_isLetter cX4_isLetter 2 (some .boolean), Cond.fieldLink RX4 13 "SeenCools$Text" "length" "I", Cond.fieldLink RX4 9 "SeenCools$Text" "bytes" "[B", Cond.methodLink RX5 47 yX5_cutWord, Cond.instanceMethod yX5_cutWord, Cond.selects RX5 yX5_cutWord yX5_cutWord, Cond.code yX5_cutWord cX5_cutWord 5 (some .int), Cond.methodLink RX5 56 yX5_whichWord, Cond.instanceMethod yX5_whichWord, Cond.selects RX5 yX5_whichWord yX5_whichWord, Cond.code yX5_whichWord cX5_whichWord 4 (some .int), Cond.methodLink RX5 62 yX4_isWord, Cond.instanceMethod yX4_isWord, Cond.selects RX4 yX4_isWord yX4_isWord, Cond.code yX4_isWord cX4_isWord 5 (some .boolean), Cond.methodLink RX4 17 yJ0_length_8abf5, Cond.instanceMethod yJ0_length_8abf5, Cond.selects RJ0 yJ0_length_8abf5 yJ0_length_8abf5, Cond.initialized RJ0, Cond.code yJ0_length_8abf5 cJ0_length_8abf5 1 (some .int), Cond.fieldLink RJ0 9 "java/lang/String" "value" "[B", Cond.methodLink RJ0 335 yJ0_coder_7d493, Cond.instanceMethod yJ0_coder_7d493]
def wsX2_readInto_r3 : List Cond := [Cond.selects RJ0 yJ0_coder_7d493 yJ0_coder_7d493, Cond.code yJ0_coder_7d493 cJ0_coder_7d493 1 (some .byte), Cond.fieldLink RJ0 38 "java/lang/String" "COMPACT_STRINGS" "Z", Cond.fieldLink RJ0 15 "java/lang/String" "coder" "B", Cond.methodLink RX4 22 yJ0_charAt_5068e, Cond.instanceMethod yJ0_charAt_5068e, Cond.selects RJ0 yJ0_charAt_5068e yJ0_charAt_5068e, Cond.code yJ0_charAt_5068e cJ0_charAt_5068e 2 (some .char), Cond.methodLink RJ0 492 yJ0_isLatin1_aae02, Cond.instanceMethod yJ0_isLatin1_aae02, Cond.selects RJ0 yJ0_isLatin1_aae02 yJ0_isLatin1_aae02, Cond.code yJ0_isLatin1_aae02 cJ0_isLatin1_aae02 1 (some .boolean), Cond.methodLink RJ0 495 yJ1_charAt_3b067, Cond.static yJ1_charAt_3b067, Cond.initialized RJ1, Cond.code yJ1_charAt_3b067 cJ1_charAt_3b067 2 (some .char), Cond.methodLink RJ1 9 yJ0_checkIndex_df160, Cond.static yJ0_checkIndex_df160, Cond.code yJ0_checkIndex_df160 cJ0_checkIndex_df160 2 none, Cond.fieldLink RJ0 1053 "jdk/internal/util/Preconditions" "SIOOBE_FORMATTER" "Ljava/util/function/BiFunction;", Cond.methodLink RJ0 1059 yJ3_checkIndex_8e157, Cond.static yJ3_checkIndex_8e157, Cond.initialized RJ3, Cond.code yJ3_checkIndex_8e157 cJ3_checkIndex_8e157 3 (some .int)]
def wsX2_readInto_r4 : List Cond := [Cond.methodLink RJ0 498 yJ2_charAt_3b067, Cond.static yJ2_charAt_3b067, Cond.initialized RJ2, Cond.code yJ2_charAt_3b067 cJ2_charAt_3b067 2 (some .char), Cond.methodLink RJ2 67 yJ2_checkIndex_2214a, Cond.static yJ2_checkIndex_2214a, Cond.code yJ2_checkIndex_2214a cJ2_checkIndex_2214a 2 none, Cond.methodLink RJ2 48 yJ2_length_9d52b, Cond.static yJ2_length_9d52b, Cond.code yJ2_length_9d52b cJ2_length_9d52b 1 (some .int), Cond.methodLink RJ2 414 yJ0_checkIndex_df160, Cond.methodLink RJ2 71 yJ2_getChar_3b067, Cond.static yJ2_getChar_3b067, Cond.code yJ2_getChar_3b067 cJ2_getChar_3b067 2 (some .char), Cond.fieldLink RJ2 44 "java/lang/StringUTF16" "$assertionsDisabled" "Z", Cond.fieldLink RJ2 59 "java/lang/StringUTF16" "HI_BYTE_SHIFT" "I", Cond.fieldLink RJ2 63 "java/lang/StringUTF16" "LO_BYTE_SHIFT" "I", Cond.methodLink RX5 35 yX5_add, Cond.instanceMethod yX5_add, Cond.selects RX5 yX5_add yX5_add, Cond.code yX5_add cX5_add 4 none, Cond.fieldLink RX5 11 "SeenCools$Tokens" "place" "[I", Cond.fieldLink RX5 15 "SeenCools$Tokens" "sort" "[I", Cond.fieldLink RX5 18 "SeenCools$Tokens" "value" "[I"]
def wsX2_readInto_r5 : List Cond := [Cond.methodLink RX5 50 yX4_isDigit, Cond.instanceMethod yX4_isDigit, Cond.selects RX4 yX4_isDigit yX4_isDigit, Cond.code yX4_isDigit cX4_isDigit 2 (some .boolean), Cond.methodLink RX5 53 yX5_cutNumber, Cond.instanceMethod yX5_cutNumber, Cond.selects RX5 yX5_cutNumber yX5_cutNumber, Cond.code yX5_cutNumber cX5_cutNumber 7 (some .int), Cond.methodLink RX2 22 yX6_makeEmpty, Cond.instanceMethod yX6_makeEmpty, Cond.selects RX6 yX6_makeEmpty yX6_makeEmpty, Cond.initialized RX6, Cond.code yX6_makeEmpty cX6_makeEmpty 2 none, Cond.fieldLink RX6 36 "SeenCools$Yard" "number" "I", Cond.fieldLink RX6 9 "SeenCools$Yard" "warmth" "[I", Cond.fieldLink RX6 15 "SeenCools$Yard" "rate" "[I", Cond.fieldLink RX6 18 "SeenCools$Yard" "work" "[I", Cond.fieldLink RX6 21 "SeenCools$Yard" "hours" "[I", Cond.fieldLink RX6 27 "SeenCools$Yard" "partsOfAll" "[I", Cond.fieldLink RX6 30 "SeenCools$Yard" "furnace" "[I", Cond.fieldLink RX6 24 "SeenCools$Yard" "parts" "[I", Cond.methodLink RX6 40 yX6_setLimit, Cond.instanceMethod yX6_setLimit, Cond.selects RX6 yX6_setLimit yX6_setLimit]
def wsX2_readInto_r6 : List Cond := [Cond.code yX6_setLimit cX6_setLimit 2 none, Cond.fieldLink RX6 44 "SeenCools$Yard" "limit" "I", Cond.methodLink RX2 35 yX2_readToken, Cond.instanceMethod yX2_readToken, Cond.selects RX2 yX2_readToken yX2_readToken, Cond.initialized RX2, Cond.code yX2_readToken cX2_readToken 1 none, Cond.fieldLink RX2 48 "SeenCools$Tokens" "number" "I", Cond.fieldLink RX2 51 "SeenCools$Tokens" "place" "[I", Cond.fieldLink RX2 54 "SeenCools$Tokens" "sort" "[I", Cond.fieldLink RX2 56 "SeenCools$Tokens" "value" "[I", Cond.fieldLink RX2 59 "SeenCools$Reader" "value" "I", Cond.methodLink RX2 41 yX2_readItem, Cond.instanceMethod yX2_readItem, Cond.selects RX2 yX2_readItem yX2_readItem, Cond.code yX2_readItem cX2_readItem 2 (some .boolean), Cond.methodLink RX2 61 yX2_readWall, Cond.instanceMethod yX2_readWall, Cond.selects RX2 yX2_readWall yX2_readWall, Cond.code yX2_readWall cX2_readWall 4 (some .boolean), Cond.methodLink RX2 73 yX6_hasRoom, Cond.instanceMethod yX6_hasRoom, Cond.selects RX6 yX6_hasRoom yX6_hasRoom, Cond.code yX6_hasRoom cX6_hasRoom 1 (some .boolean)]
def wsX2_readInto_r7 : List Cond := [Cond.methodLink RX2 77 yX2_readNumber, Cond.instanceMethod yX2_readNumber, Cond.selects RX2 yX2_readNumber yX2_readNumber, Cond.code yX2_readNumber cX2_readNumber 3 (some .boolean), Cond.methodLink RX2 81 yX2_readSemicolon, Cond.instanceMethod yX2_readSemicolon, Cond.selects RX2 yX2_readSemicolon yX2_readSemicolon, Cond.code yX2_readSemicolon cX2_readSemicolon 1 (some .boolean), Cond.methodLink RX2 84 yX6_addWall, Cond.instanceMethod yX6_addWall, Cond.selects RX6 yX6_addWall yX6_addWall, Cond.code yX6_addWall cX6_addWall 3 none, Cond.methodLink RX2 64 yX2_readSees, Cond.instanceMethod yX2_readSees, Cond.selects RX2 yX2_readSees yX2_readSees, Cond.code yX2_readSees cX2_readSees 5 (some .boolean), Cond.fieldLink RX2 88 "SeenCools$Yard" "number" "I", Cond.methodLink RX2 89 yX6_partsLeft, Cond.instanceMethod yX6_partsLeft, Cond.selects RX6 yX6_partsLeft yX6_partsLeft, Cond.code yX6_partsLeft cX6_partsLeft 3 (some .int), Cond.methodLink RX6 47 Lib.Math.max.name, Cond.static Lib.Math.max.name, Cond.initialized "java/lang/Math"]
def wsX2_readInto_r8 : List Cond := [Cond.code Lib.Math.max.name Lib.Math.max.code 2 (some .int), Cond.methodLink RX2 93 yX6_addParts, Cond.instanceMethod yX6_addParts, Cond.selects RX6 yX6_addParts yX6_addParts, Cond.code yX6_addParts cX6_addParts 4 none, Cond.methodLink RX2 67 yX2_readWork, Cond.instanceMethod yX2_readWork, Cond.selects RX2 yX2_readWork yX2_readWork, Cond.code yX2_readWork cX2_readWork 5 (some .boolean), Cond.fieldLink RX2 97 "SeenCools$Yard" "work" "[I", Cond.fieldLink RX2 100 "SeenCools$Yard" "hours" "[I", Cond.methodLink RX2 70 yX2_readLimit, Cond.instanceMethod yX2_readLimit, Cond.selects RX2 yX2_readLimit yX2_readLimit, Cond.code yX2_readLimit cX2_readLimit 3 (some .boolean), Cond.methodLink RX2 103 yX6_setLimit]
def wsX2_readInto : List Cond := .code yX2_readInto cX2_readInto 4 (some .int) :: ((wsX2_readInto_r1 ++ (wsX2_readInto_r2 ++ (wsX2_readInto_r3 ++ (wsX2_readInto_r4 ++ (wsX2_readInto_r5 ++ (wsX2_readInto_r6 ++ (wsX2_readInto_r7 ++ wsX2_readInto_r8))))))) ++ wsX20 ++ wsX50 ++ wsX40 ++ wsX60)
def wsX3_init : List Cond := .code yX3_init cX3_init 1 none :: ([.methodLink RX3 3 objectInit, .instanceMethod objectInit, .code objectInit ⟨#[0xb1]⟩ 1 none, .arrayClass .int, .fieldLink RX3 9 "SeenCools$Sights" "behindHours" "[I", .fieldLink RX3 15 "SeenCools$Sights" "which" "[I", .fieldLink RX3 18 "SeenCools$Sights" "warmth" "[I"] ++ wsX30)
def wsX3_add : List Cond := .code yX3_add cX3_add 4 none :: ([.fieldLink RX3 21 "SeenCools$Sights" "number" "I", .fieldLink RX3 9 "SeenCools$Sights" "behindHours" "[I", .fieldLink RX3 15 "SeenCools$Sights" "which" "[I", .fieldLink RX3 18 "SeenCools$Sights" "warmth" "[I"] ++ wsX30)
def wsX4_init : List Cond := .code yX4_init cX4_init 1 none :: ([.methodLink RX4 1 objectInit, .instanceMethod objectInit, .code objectInit ⟨#[0xb1]⟩ 1 none, .arrayClass .byte, .fieldLink RX4 9 "SeenCools$Text" "bytes" "[B"] ++ wsX40)
def wsX4_hasRoomFor : List Cond := .code yX4_hasRoomFor cX4_hasRoomFor 2 (some .boolean) :: ([.fieldLink RX4 13 "SeenCools$Text" "length" "I"] ++ wsX40)
def wsX4_append : List Cond := .code yX4_append cX4_append 5 none :: ([.fieldLink RX4 13 "SeenCools$Text" "length" "I", .fieldLink RX4 9 "SeenCools$Text" "bytes" "[B"] ++ wsX40)
def wsX6_copy : List Cond := .code yX6_copy cX6_copy 3 none :: ([.fieldLink RX6 36 "SeenCools$Yard" "number" "I", .fieldLink RX6 44 "SeenCools$Yard" "limit" "I", .fieldLink RX6 9 "SeenCools$Yard" "warmth" "[I", .fieldLink RX6 15 "SeenCools$Yard" "rate" "[I", .fieldLink RX6 18 "SeenCools$Yard" "work" "[I", .fieldLink RX6 21 "SeenCools$Yard" "hours" "[I", .fieldLink RX6 27 "SeenCools$Yard" "partsOfAll" "[I", .fieldLink RX6 30 "SeenCools$Yard" "furnace" "[I", .fieldLink RX6 24 "SeenCools$Yard" "parts" "[I"] ++ wsX60)
def wsX6_dark : List Cond := .code yX6_dark cX6_dark 2 (some .int) :: ([.fieldLink RX6 27 "SeenCools$Yard" "partsOfAll" "[I"] ++ wsX60)
def wsX7_init_r1 : List Cond := [Cond.methodLink RX7 3 objectInit, Cond.instanceMethod objectInit, Cond.code objectInit ⟨#[0xb1]⟩ 1 none, Cond.classLink RX7 9 RX4, Cond.instantiable RX4 2, Cond.initialized RX4, Cond.fieldLink RX7 12 "SeenCools" "text" "LSeenCools$Text;", Cond.classLink RX7 16 RX2, Cond.instantiable RX2 6, Cond.initialized RX2, Cond.fieldLink RX7 19 "SeenCools" "reader" "LSeenCools$Reader;", Cond.classLink RX7 23 RX1, Cond.instantiable RX1 8, Cond.initialized RX1, Cond.fieldLink RX7 26 "SeenCools" "present" "LSeenCools$Present;", Cond.classLink RX7 30 RX3, Cond.instantiable RX3 4, Cond.initialized RX3, Cond.fieldLink RX7 33 "SeenCools" "sights" "LSeenCools$Sights;", Cond.classLink RX7 37 RX0, Cond.instantiable RX0 3, Cond.initialized RX0, Cond.fieldLink RX7 40 "SeenCools" "ahead" "LSeenCools$Ahead;", Cond.fieldLink RX7 44 "SeenCools" "images" "[LSeenCools$Present;"]
def wsX7_init_r2 : List Cond := [Cond.classLink RX7 48 RX6, Cond.instantiable RX6 9, Cond.initialized RX6, Cond.fieldLink RX7 51 "SeenCools" "told" "LSeenCools$Yard;", Cond.fieldLink RX7 55 "SeenCools" "draft" "LSeenCools$Yard;", Cond.instanceMethod yX4_init, Cond.code yX4_init cX4_init 1 none, Cond.methodLink RX4 1 objectInit, Cond.arrayClass .byte, Cond.fieldLink RX4 9 "SeenCools$Text" "bytes" "[B", Cond.instanceMethod yX2_init, Cond.code yX2_init cX2_init 1 none, Cond.methodLink RX2 3 objectInit, Cond.classLink RX2 9 RX5, Cond.instantiable RX5 4, Cond.initialized RX5, Cond.fieldLink RX2 12 "SeenCools$Reader" "tokens" "LSeenCools$Tokens;", Cond.instanceMethod yX5_init, Cond.code yX5_init cX5_init 1 none, Cond.methodLink RX5 3 objectInit, Cond.arrayClass .int, Cond.fieldLink RX5 11 "SeenCools$Tokens" "place" "[I", Cond.fieldLink RX5 15 "SeenCools$Tokens" "sort" "[I", Cond.fieldLink RX5 18 "SeenCools$Tokens" "value" "[I"]
def wsX7_init_r3 : List Cond := [Cond.instanceMethod yX1_init, Cond.code yX1_init cX1_init 1 none, Cond.methodLink RX1 3 objectInit, Cond.fieldLink RX1 9 "SeenCools$Present" "warmth" "[I", Cond.fieldLink RX1 15 "SeenCools$Present" "warmthThen" "[I", Cond.fieldLink RX1 18 "SeenCools$Present" "changes" "[I", Cond.instanceMethod yX3_init, Cond.code yX3_init cX3_init 1 none, Cond.methodLink RX3 3 objectInit, Cond.fieldLink RX3 9 "SeenCools$Sights" "behindHours" "[I", Cond.fieldLink RX3 15 "SeenCools$Sights" "which" "[I", Cond.fieldLink RX3 18 "SeenCools$Sights" "warmth" "[I", Cond.instanceMethod yX0_init, Cond.code yX0_init cX0_init 1 none, Cond.methodLink RX0 3 objectInit, Cond.classLink RX0 9 RX1, Cond.fieldLink RX0 12 "SeenCools$Ahead" "then" "LSeenCools$Present;", Cond.classLink RX0 18 RX6, Cond.fieldLink RX0 21 "SeenCools$Ahead" "asIf" "LSeenCools$Yard;", Cond.fieldLink RX0 25 "SeenCools$Ahead" "round" "[I", Cond.methodLink RX0 20 yX6_init, Cond.instanceMethod yX6_init, Cond.code yX6_init cX6_init 1 none, Cond.methodLink RX6 3 objectInit]
def wsX7_init_r4 : List Cond := [Cond.fieldLink RX6 9 "SeenCools$Yard" "warmth" "[I", Cond.fieldLink RX6 15 "SeenCools$Yard" "rate" "[I", Cond.fieldLink RX6 18 "SeenCools$Yard" "work" "[I", Cond.fieldLink RX6 21 "SeenCools$Yard" "hours" "[I", Cond.fieldLink RX6 24 "SeenCools$Yard" "parts" "[I", Cond.fieldLink RX6 27 "SeenCools$Yard" "partsOfAll" "[I", Cond.fieldLink RX6 30 "SeenCools$Yard" "furnace" "[I", Cond.methodLink RX6 33 yX6_makeEmpty, Cond.instanceMethod yX6_makeEmpty, Cond.selects RX6 yX6_makeEmpty yX6_makeEmpty, Cond.code yX6_makeEmpty cX6_makeEmpty 2 none, Cond.fieldLink RX6 36 "SeenCools$Yard" "number" "I", Cond.methodLink RX6 40 yX6_setLimit, Cond.instanceMethod yX6_setLimit, Cond.selects RX6 yX6_setLimit yX6_setLimit, Cond.code yX6_setLimit cX6_setLimit 2 none, Cond.fieldLink RX6 44 "SeenCools$Yard" "limit" "I", Cond.methodLink RX7 50 yX6_init]
def wsX7_init : List Cond := .code yX7_init cX7_init 2 none :: ((wsX7_init_r1 ++ (wsX7_init_r2 ++ (wsX7_init_r3 ++ wsX7_init_r4))) ++ wsX40 ++ wsX70 ++ wsX20 ++ wsX10 ++ wsX30 ++ wsX00 ++ wsX60 ++ wsX50)
def wsX7_type : List Cond := .code yX7_type cX7_type 4 (some .int) :: ([.fieldLink RX7 12 "SeenCools" "text" "LSeenCools$Text;", .fieldLink RX7 66 "SeenCools$Text" "length" "I", .methodLink RX7 58 yX4_hasRoomFor, .instanceMethod yX4_hasRoomFor, .selects RX4 yX4_hasRoomFor yX4_hasRoomFor, .initialized RX4, .code yX4_hasRoomFor cX4_hasRoomFor 2 (some .boolean), .fieldLink RX4 13 "SeenCools$Text" "length" "I", .methodLink RX7 62 yX4_append, .instanceMethod yX4_append, .selects RX4 yX4_append yX4_append, .code yX4_append cX4_append 5 none, .fieldLink RX4 9 "SeenCools$Text" "bytes" "[B"] ++ wsX70 ++ wsX40)
def wsX7_clear : List Cond := .code yX7_clear cX7_clear 2 (some .int) :: ([.fieldLink RX7 12 "SeenCools" "text" "LSeenCools$Text;", .fieldLink RX7 66 "SeenCools$Text" "length" "I"] ++ wsX70 ++ wsX40)
def wsX7_walls_r1 : List Cond := [Cond.fieldLink RX7 19 "SeenCools" "reader" "LSeenCools$Reader;", Cond.fieldLink RX7 55 "SeenCools" "draft" "LSeenCools$Yard;", Cond.fieldLink RX7 12 "SeenCools" "text" "LSeenCools$Text;", Cond.fieldLink RX7 51 "SeenCools" "told" "LSeenCools$Yard;", Cond.fieldLink RX7 66 "SeenCools$Text" "length" "I", Cond.fieldLink RX7 26 "SeenCools" "present" "LSeenCools$Present;", Cond.fieldLink RX7 33 "SeenCools" "sights" "LSeenCools$Sights;", Cond.fieldLink RX7 78 "SeenCools$Sights" "number" "I", Cond.fieldLink RX7 81 "SeenCools" "imagesKept" "I", Cond.methodLink RX7 70 yX2_readInto, Cond.instanceMethod yX2_readInto, Cond.selects RX2 yX2_readInto yX2_readInto, Cond.initialized RX2, Cond.code yX2_readInto cX2_readInto 4 (some .int), Cond.fieldLink RX2 12 "SeenCools$Reader" "tokens" "LSeenCools$Tokens;", Cond.fieldLink RX2 27 "SeenCools$Reader" "next" "I", Cond.fieldLink RX2 31 "SeenCools$Reader" "limitTold" "Z", Cond.fieldLink RX2 38 "SeenCools$Reader" "sort" "I", Cond.fieldLink RX2 45 "SeenCools$Reader" "place" "I", Cond.methodLink RX2 18 yX5_cut, Cond.instanceMethod yX5_cut, Cond.selects RX5 yX5_cut yX5_cut, Cond.initialized RX5, Cond.code yX5_cut cX5_cut 4 none]
def wsX7_walls_r2 : List Cond := [Cond.fieldLink RX5 21 "SeenCools$Tokens" "number" "I", Cond.fieldLink RX5 29 "SeenCools$Text" "length" "I", Cond.methodLink RX5 25 yX5_skipBlanks, Cond.instanceMethod yX5_skipBlanks, Cond.selects RX5 yX5_skipBlanks yX5_skipBlanks, Cond.code yX5_skipBlanks cX5_skipBlanks 4 (some .int), Cond.fieldLink RX5 39 "SeenCools$Text" "bytes" "[B", Cond.methodLink RX5 32 yX5_cutOne, Cond.instanceMethod yX5_cutOne, Cond.selects RX5 yX5_cutOne yX5_cutOne, Cond.code yX5_cutOne cX5_cutOne 3 (some .int), Cond.methodLink RX5 43 yX4_isLetter, Cond.instanceMethod yX4_isLetter, Cond.selects RX4 yX4_isLetter yX4_isLetter, Cond.initialized RX4, Cond.code yX4_isLetter cX4_isLetter 2 (some .boolean), Cond.fieldLink RX4 13 "SeenCools$Text" "length" "I", Cond.fieldLink RX4 9 "SeenCools$Text" "bytes" "[B", Cond.methodLink RX5 47 yX5_cutWord, Cond.instanceMethod yX5_cutWord, Cond.selects RX5 yX5_cutWord yX5_cutWord, Cond.code yX5_cutWord cX5_cutWord 5 (some .int), Cond.methodLink RX5 56 yX5_whichWord, Cond.instanceMethod yX5_whichWord]
def wsX7_walls_r3 : List Cond := [Cond.selects RX5 yX5_whichWord yX5_whichWord, Cond.code yX5_whichWord cX5_whichWord 4 (some .int), Cond.methodLink RX5 62 yX4_isWord, Cond.instanceMethod yX4_isWord, Cond.selects RX4 yX4_isWord yX4_isWord, Cond.code yX4_isWord cX4_isWord 5 (some .boolean), Cond.methodLink RX4 17 yJ0_length_8abf5, Cond.instanceMethod yJ0_length_8abf5, Cond.selects RJ0 yJ0_length_8abf5 yJ0_length_8abf5, Cond.initialized RJ0, Cond.code yJ0_length_8abf5 cJ0_length_8abf5 1 (some .int), Cond.fieldLink RJ0 9 "java/lang/String" "value" "[B", Cond.methodLink RJ0 335 yJ0_coder_7d493, Cond.instanceMethod yJ0_coder_7d493, Cond.selects RJ0 yJ0_coder_7d493 yJ0_coder_7d493, Cond.code yJ0_coder_7d493 cJ0_coder_7d493 1 (some .byte), Cond.fieldLink RJ0 38 "java/lang/String" "COMPACT_STRINGS" "Z", Cond.fieldLink RJ0 15 "java/lang/String" "coder" "B", Cond.methodLink RX4 22 yJ0_charAt_5068e, Cond.instanceMethod yJ0_charAt_5068e, Cond.selects RJ0 yJ0_charAt_5068e yJ0_charAt_5068e, Cond.code yJ0_charAt_5068e cJ0_charAt_5068e 2 (some .char), Cond.methodLink RJ0 492 yJ0_isLatin1_aae02, Cond.instanceMethod yJ0_isLatin1_aae02]
def wsX7_walls_r4 : List Cond := [Cond.selects RJ0 yJ0_isLatin1_aae02 yJ0_isLatin1_aae02, Cond.code yJ0_isLatin1_aae02 cJ0_isLatin1_aae02 1 (some .boolean), Cond.methodLink RJ0 495 yJ1_charAt_3b067, Cond.static yJ1_charAt_3b067, Cond.initialized RJ1, Cond.code yJ1_charAt_3b067 cJ1_charAt_3b067 2 (some .char), Cond.methodLink RJ1 9 yJ0_checkIndex_df160, Cond.static yJ0_checkIndex_df160, Cond.code yJ0_checkIndex_df160 cJ0_checkIndex_df160 2 none, Cond.fieldLink RJ0 1053 "jdk/internal/util/Preconditions" "SIOOBE_FORMATTER" "Ljava/util/function/BiFunction;", Cond.methodLink RJ0 1059 yJ3_checkIndex_8e157, Cond.static yJ3_checkIndex_8e157, Cond.initialized RJ3, Cond.code yJ3_checkIndex_8e157 cJ3_checkIndex_8e157 3 (some .int), Cond.methodLink RJ0 498 yJ2_charAt_3b067, Cond.static yJ2_charAt_3b067, Cond.initialized RJ2, Cond.code yJ2_charAt_3b067 cJ2_charAt_3b067 2 (some .char), Cond.methodLink RJ2 67 yJ2_checkIndex_2214a, Cond.static yJ2_checkIndex_2214a, Cond.code yJ2_checkIndex_2214a cJ2_checkIndex_2214a 2 none, Cond.methodLink RJ2 48 yJ2_length_9d52b, Cond.static yJ2_length_9d52b, Cond.code yJ2_length_9d52b cJ2_length_9d52b 1 (some .int)]
def wsX7_walls_r5 : List Cond := [Cond.methodLink RJ2 414 yJ0_checkIndex_df160, Cond.methodLink RJ2 71 yJ2_getChar_3b067, Cond.static yJ2_getChar_3b067, Cond.code yJ2_getChar_3b067 cJ2_getChar_3b067 2 (some .char), Cond.fieldLink RJ2 44 "java/lang/StringUTF16" "$assertionsDisabled" "Z", Cond.fieldLink RJ2 59 "java/lang/StringUTF16" "HI_BYTE_SHIFT" "I", Cond.fieldLink RJ2 63 "java/lang/StringUTF16" "LO_BYTE_SHIFT" "I", Cond.methodLink RX5 35 yX5_add, Cond.instanceMethod yX5_add, Cond.selects RX5 yX5_add yX5_add, Cond.code yX5_add cX5_add 4 none, Cond.fieldLink RX5 11 "SeenCools$Tokens" "place" "[I", Cond.fieldLink RX5 15 "SeenCools$Tokens" "sort" "[I", Cond.fieldLink RX5 18 "SeenCools$Tokens" "value" "[I", Cond.methodLink RX5 50 yX4_isDigit, Cond.instanceMethod yX4_isDigit, Cond.selects RX4 yX4_isDigit yX4_isDigit, Cond.code yX4_isDigit cX4_isDigit 2 (some .boolean), Cond.methodLink RX5 53 yX5_cutNumber, Cond.instanceMethod yX5_cutNumber, Cond.selects RX5 yX5_cutNumber yX5_cutNumber, Cond.code yX5_cutNumber cX5_cutNumber 7 (some .int), Cond.methodLink RX2 22 yX6_makeEmpty, Cond.instanceMethod yX6_makeEmpty]
def wsX7_walls_r6 : List Cond := [Cond.selects RX6 yX6_makeEmpty yX6_makeEmpty, Cond.initialized RX6, Cond.code yX6_makeEmpty cX6_makeEmpty 2 none, Cond.fieldLink RX6 36 "SeenCools$Yard" "number" "I", Cond.fieldLink RX6 9 "SeenCools$Yard" "warmth" "[I", Cond.fieldLink RX6 15 "SeenCools$Yard" "rate" "[I", Cond.fieldLink RX6 18 "SeenCools$Yard" "work" "[I", Cond.fieldLink RX6 21 "SeenCools$Yard" "hours" "[I", Cond.fieldLink RX6 27 "SeenCools$Yard" "partsOfAll" "[I", Cond.fieldLink RX6 30 "SeenCools$Yard" "furnace" "[I", Cond.fieldLink RX6 24 "SeenCools$Yard" "parts" "[I", Cond.methodLink RX6 40 yX6_setLimit, Cond.instanceMethod yX6_setLimit, Cond.selects RX6 yX6_setLimit yX6_setLimit, Cond.code yX6_setLimit cX6_setLimit 2 none, Cond.fieldLink RX6 44 "SeenCools$Yard" "limit" "I", Cond.methodLink RX2 35 yX2_readToken, Cond.instanceMethod yX2_readToken, Cond.selects RX2 yX2_readToken yX2_readToken, Cond.code yX2_readToken cX2_readToken 1 none, Cond.fieldLink RX2 48 "SeenCools$Tokens" "number" "I", Cond.fieldLink RX2 51 "SeenCools$Tokens" "place" "[I", Cond.fieldLink RX2 54 "SeenCools$Tokens" "sort" "[I", Cond.fieldLink RX2 56 "SeenCools$Tokens" "value" "[I"]
def wsX7_walls_r7 : List Cond := [Cond.fieldLink RX2 59 "SeenCools$Reader" "value" "I", Cond.methodLink RX2 41 yX2_readItem, Cond.instanceMethod yX2_readItem, Cond.selects RX2 yX2_readItem yX2_readItem, Cond.code yX2_readItem cX2_readItem 2 (some .boolean), Cond.methodLink RX2 61 yX2_readWall, Cond.instanceMethod yX2_readWall, Cond.selects RX2 yX2_readWall yX2_readWall, Cond.code yX2_readWall cX2_readWall 4 (some .boolean), Cond.methodLink RX2 73 yX6_hasRoom, Cond.instanceMethod yX6_hasRoom, Cond.selects RX6 yX6_hasRoom yX6_hasRoom, Cond.code yX6_hasRoom cX6_hasRoom 1 (some .boolean), Cond.methodLink RX2 77 yX2_readNumber, Cond.instanceMethod yX2_readNumber, Cond.selects RX2 yX2_readNumber yX2_readNumber, Cond.code yX2_readNumber cX2_readNumber 3 (some .boolean), Cond.methodLink RX2 81 yX2_readSemicolon, Cond.instanceMethod yX2_readSemicolon, Cond.selects RX2 yX2_readSemicolon yX2_readSemicolon, Cond.code yX2_readSemicolon cX2_readSemicolon 1 (some .boolean), Cond.methodLink RX2 84 yX6_addWall, Cond.instanceMethod yX6_addWall, Cond.selects RX6 yX6_addWall yX6_addWall]
def wsX7_walls_r8 : List Cond := [Cond.code yX6_addWall cX6_addWall 3 none, Cond.methodLink RX2 64 yX2_readSees, Cond.instanceMethod yX2_readSees, Cond.selects RX2 yX2_readSees yX2_readSees, Cond.code yX2_readSees cX2_readSees 5 (some .boolean), Cond.fieldLink RX2 88 "SeenCools$Yard" "number" "I", Cond.methodLink RX2 89 yX6_partsLeft, Cond.instanceMethod yX6_partsLeft, Cond.selects RX6 yX6_partsLeft yX6_partsLeft, Cond.code yX6_partsLeft cX6_partsLeft 3 (some .int), Cond.methodLink RX6 47 Lib.Math.max.name, Cond.static Lib.Math.max.name, Cond.initialized "java/lang/Math", Cond.code Lib.Math.max.name Lib.Math.max.code 2 (some .int), Cond.methodLink RX2 93 yX6_addParts, Cond.instanceMethod yX6_addParts, Cond.selects RX6 yX6_addParts yX6_addParts, Cond.code yX6_addParts cX6_addParts 4 none, Cond.methodLink RX2 67 yX2_readWork, Cond.instanceMethod yX2_readWork, Cond.selects RX2 yX2_readWork yX2_readWork, Cond.code yX2_readWork cX2_readWork 5 (some .boolean), Cond.fieldLink RX2 97 "SeenCools$Yard" "work" "[I", Cond.fieldLink RX2 100 "SeenCools$Yard" "hours" "[I"]
def wsX7_walls_r9 : List Cond := [Cond.methodLink RX2 70 yX2_readLimit, Cond.instanceMethod yX2_readLimit, Cond.selects RX2 yX2_readLimit yX2_readLimit, Cond.code yX2_readLimit cX2_readLimit 3 (some .boolean), Cond.methodLink RX2 103 yX6_setLimit, Cond.methodLink RX7 74 yX1_begin, Cond.instanceMethod yX1_begin, Cond.selects RX1 yX1_begin yX1_begin, Cond.initialized RX1, Cond.code yX1_begin cX1_begin 3 none, Cond.fieldLink RX1 21 "SeenCools$Present" "hours" "I", Cond.fieldLink RX1 25 "SeenCools$Present" "shutOnes" "I", Cond.fieldLink RX1 28 "SeenCools$Present" "mirrors" "I", Cond.fieldLink RX1 31 "SeenCools$Present" "givenToDark" "I", Cond.fieldLink RX1 34 "SeenCools$Present" "changesKnown" "I", Cond.fieldLink RX1 9 "SeenCools$Present" "warmth" "[I", Cond.fieldLink RX1 37 "SeenCools$Yard" "warmth" "[I"]
def wsX7_walls : List Cond := .code yX7_walls cX7_walls 3 (some .int) :: ((wsX7_walls_r1 ++ (wsX7_walls_r2 ++ (wsX7_walls_r3 ++ (wsX7_walls_r4 ++ (wsX7_walls_r5 ++ (wsX7_walls_r6 ++ (wsX7_walls_r7 ++ (wsX7_walls_r8 ++ wsX7_walls_r9)))))))) ++ wsX70 ++ wsX40 ++ wsX30 ++ wsX20 ++ wsX50 ++ wsX60 ++ wsX10)
def wsX7_isWall : List Cond := .code yX7_isWall cX7_isWall 2 (some .boolean) :: ([.fieldLink RX7 51 "SeenCools" "told" "LSeenCools$Yard;", .fieldLink RX7 141 "SeenCools$Yard" "number" "I"] ++ wsX70 ++ wsX60)
def wsX7_wall : List Cond := .code yX7_wall cX7_wall 3 (some .int) :: ([.fieldLink RX7 26 "SeenCools" "present" "LSeenCools$Present;", .fieldLink RX7 87 "SeenCools$Present" "warmth" "[I", .fieldLink RX7 51 "SeenCools" "told" "LSeenCools$Yard;", .fieldLink RX7 91 "SeenCools$Yard" "rate" "[I", .fieldLink RX7 94 "SeenCools$Yard" "work" "[I", .fieldLink RX7 97 "SeenCools$Yard" "hours" "[I", .fieldLink RX7 104 "SeenCools$Present" "shutOnes" "I", .fieldLink RX7 111 "SeenCools$Present" "mirrors" "I", .methodLink RX7 84 yX7_isWall, .instanceMethod yX7_isWall, .selects RX7 yX7_isWall yX7_isWall, .initialized RX7, .code yX7_isWall cX7_isWall 2 (some .boolean), .fieldLink RX7 141 "SeenCools$Yard" "number" "I", .methodLink RX7 100 yX6_dark, .instanceMethod yX6_dark, .selects RX6 yX6_dark yX6_dark, .initialized RX6, .code yX6_dark cX6_dark 2 (some .int), .fieldLink RX6 27 "SeenCools$Yard" "partsOfAll" "[I", .methodLink RX7 107 yX7_bit, .static yX7_bit, .code yX7_bit cX7_bit 2 (some .int)] ++ wsX70 ++ wsX10 ++ wsX60)
def wsX7_sees : List Cond := .code yX7_sees cX7_sees 3 (some .int) :: ([.fieldLink RX7 51 "SeenCools" "told" "LSeenCools$Yard;", .fieldLink RX7 114 "SeenCools$Yard" "parts" "[I", .methodLink RX7 84 yX7_isWall, .instanceMethod yX7_isWall, .selects RX7 yX7_isWall yX7_isWall, .initialized RX7, .code yX7_isWall cX7_isWall 2 (some .boolean), .fieldLink RX7 141 "SeenCools$Yard" "number" "I"] ++ wsX70 ++ wsX60)
def wsX7_hour_r1 : List Cond := [Cond.fieldLink RX7 26 "SeenCools" "present" "LSeenCools$Present;", Cond.fieldLink RX7 117 "SeenCools$Present" "hours" "I", Cond.fieldLink RX7 51 "SeenCools" "told" "LSeenCools$Yard;", Cond.methodLink RX7 119 yX1_goBy, Cond.instanceMethod yX1_goBy, Cond.selects RX1 yX1_goBy yX1_goBy, Cond.initialized RX1, Cond.code yX1_goBy cX1_goBy 5 (some .int), Cond.fieldLink RX1 21 "SeenCools$Present" "hours" "I", Cond.fieldLink RX1 48 "SeenCools$Yard" "number" "I", Cond.fieldLink RX1 15 "SeenCools$Present" "warmthThen" "[I", Cond.fieldLink RX1 9 "SeenCools$Present" "warmth" "[I", Cond.fieldLink RX1 51 "SeenCools$Yard" "hours" "[I", Cond.fieldLink RX1 57 "SeenCools$Yard" "work" "[I", Cond.fieldLink RX1 60 "SeenCools$Yard" "furnace" "[I", Cond.fieldLink RX1 31 "SeenCools$Present" "givenToDark" "I", Cond.static yX7_bit, Cond.initialized RX7, Cond.code yX7_bit cX7_bit 2 (some .int), Cond.methodLink RX1 63 yX1_giveOff, Cond.instanceMethod yX1_giveOff, Cond.selects RX1 yX1_giveOff yX1_giveOff, Cond.code yX1_giveOff cX1_giveOff 7 (some .int), Cond.fieldLink RX1 25 "SeenCools$Present" "shutOnes" "I"]
def wsX7_hour_r2 : List Cond := [Cond.fieldLink RX1 67 "SeenCools$Yard" "rate" "[I", Cond.fieldLink RX1 70 "SeenCools$Yard" "parts" "[I", Cond.fieldLink RX1 28 "SeenCools$Present" "mirrors" "I"]
def wsX7_hour : List Cond := .code yX7_hour cX7_hour 1 (some .int) :: ((wsX7_hour_r1 ++ wsX7_hour_r2) ++ wsX70 ++ wsX10 ++ wsX60)
def wsX7_isBit : List Cond := .code yX7_isBit cX7_isBit 1 (some .boolean) :: ([])
def wsJ6_bitCount_0f7a4 : List Cond := .code yJ6_bitCount_0f7a4 cJ6_bitCount_0f7a4 1 (some .int) :: ([.constant RJ6 265 (1431655765), .constant RJ6 266 (858993459), .constant RJ6 267 (252645135)])
def wsX7_shut_r1 : List Cond := [Cond.fieldLink RX7 26 "SeenCools" "present" "LSeenCools$Present;", Cond.fieldLink RX7 104 "SeenCools$Present" "shutOnes" "I", Cond.methodLink RX7 84 yX7_isWall, Cond.instanceMethod yX7_isWall, Cond.selects RX7 yX7_isWall yX7_isWall, Cond.initialized RX7, Cond.code yX7_isWall cX7_isWall 2 (some .boolean), Cond.fieldLink RX7 51 "SeenCools" "told" "LSeenCools$Yard;", Cond.fieldLink RX7 141 "SeenCools$Yard" "number" "I", Cond.methodLink RX7 123 yX7_isBit, Cond.static yX7_isBit, Cond.code yX7_isBit cX7_isBit 1 (some .boolean), Cond.methodLink RX7 107 yX7_bit, Cond.static yX7_bit, Cond.code yX7_bit cX7_bit 2 (some .int), Cond.methodLink RX7 126 yX1_change, Cond.instanceMethod yX1_change, Cond.selects RX1 yX1_change yX1_change, Cond.initialized RX1, Cond.code yX1_change cX1_change 3 none, Cond.fieldLink RX1 34 "SeenCools$Present" "changesKnown" "I", Cond.fieldLink RX1 18 "SeenCools$Present" "changes" "[I", Cond.methodLink RX1 44 yX1_turn, Cond.instanceMethod yX1_turn]
def wsX7_shut_r2 : List Cond := [Cond.selects RX1 yX1_turn yX1_turn, Cond.code yX1_turn cX1_turn 2 none, Cond.fieldLink RX1 25 "SeenCools$Present" "shutOnes" "I", Cond.fieldLink RX1 28 "SeenCools$Present" "mirrors" "I", Cond.methodLink RX7 130 yJ6_bitCount_0f7a4, Cond.static yJ6_bitCount_0f7a4, Cond.initialized RJ6, Cond.code yJ6_bitCount_0f7a4 cJ6_bitCount_0f7a4 1 (some .int), Cond.constant RJ6 265 (1431655765), Cond.constant RJ6 266 (858993459), Cond.constant RJ6 267 (252645135)]
def wsX7_shut : List Cond := .code yX7_shut cX7_shut 3 (some .int) :: ((wsX7_shut_r1 ++ wsX7_shut_r2) ++ wsX70 ++ wsX10 ++ wsX60)
def wsX7_mirror_r1 : List Cond := [Cond.fieldLink RX7 26 "SeenCools" "present" "LSeenCools$Present;", Cond.fieldLink RX7 111 "SeenCools$Present" "mirrors" "I", Cond.methodLink RX7 84 yX7_isWall, Cond.instanceMethod yX7_isWall, Cond.selects RX7 yX7_isWall yX7_isWall, Cond.initialized RX7, Cond.code yX7_isWall cX7_isWall 2 (some .boolean), Cond.fieldLink RX7 51 "SeenCools" "told" "LSeenCools$Yard;", Cond.fieldLink RX7 141 "SeenCools$Yard" "number" "I", Cond.methodLink RX7 123 yX7_isBit, Cond.static yX7_isBit, Cond.code yX7_isBit cX7_isBit 1 (some .boolean), Cond.methodLink RX7 107 yX7_bit, Cond.static yX7_bit, Cond.code yX7_bit cX7_bit 2 (some .int), Cond.methodLink RX7 126 yX1_change, Cond.instanceMethod yX1_change, Cond.selects RX1 yX1_change yX1_change, Cond.initialized RX1, Cond.code yX1_change cX1_change 3 none, Cond.fieldLink RX1 34 "SeenCools$Present" "changesKnown" "I", Cond.fieldLink RX1 18 "SeenCools$Present" "changes" "[I", Cond.methodLink RX1 44 yX1_turn, Cond.instanceMethod yX1_turn]
def wsX7_mirror_r2 : List Cond := [Cond.selects RX1 yX1_turn yX1_turn, Cond.code yX1_turn cX1_turn 2 none, Cond.fieldLink RX1 25 "SeenCools$Present" "shutOnes" "I", Cond.fieldLink RX1 28 "SeenCools$Present" "mirrors" "I", Cond.methodLink RX7 130 yJ6_bitCount_0f7a4, Cond.static yJ6_bitCount_0f7a4, Cond.initialized RJ6, Cond.code yJ6_bitCount_0f7a4 cJ6_bitCount_0f7a4 1 (some .int), Cond.constant RJ6 265 (1431655765), Cond.constant RJ6 266 (858993459), Cond.constant RJ6 267 (252645135)]
def wsX7_mirror : List Cond := .code yX7_mirror cX7_mirror 3 (some .int) :: ((wsX7_mirror_r1 ++ wsX7_mirror_r2) ++ wsX70 ++ wsX10 ++ wsX60)
def wsX7_undo : List Cond := .code yX7_undo cX7_undo 1 (some .int) :: ([.fieldLink RX7 26 "SeenCools" "present" "LSeenCools$Present;", .fieldLink RX7 135 "SeenCools$Present" "changesKnown" "I", .methodLink RX7 138 yX1_changeBack, .instanceMethod yX1_changeBack, .selects RX1 yX1_changeBack yX1_changeBack, .initialized RX1, .code yX1_changeBack cX1_changeBack 1 none, .fieldLink RX1 34 "SeenCools$Present" "changesKnown" "I", .fieldLink RX1 18 "SeenCools$Present" "changes" "[I", .methodLink RX1 44 yX1_turn, .instanceMethod yX1_turn, .selects RX1 yX1_turn yX1_turn, .code yX1_turn cX1_turn 2 none, .fieldLink RX1 25 "SeenCools$Present" "shutOnes" "I", .fieldLink RX1 28 "SeenCools$Present" "mirrors" "I"] ++ wsX70 ++ wsX10)
def wsX7_now : List Cond := .code yX7_now cX7_now 2 (some .int) :: ([.fieldLink RX7 26 "SeenCools" "present" "LSeenCools$Present;", .fieldLink RX7 117 "SeenCools$Present" "hours" "I", .fieldLink RX7 51 "SeenCools" "told" "LSeenCools$Yard;", .fieldLink RX7 141 "SeenCools$Yard" "number" "I", .fieldLink RX7 145 "SeenCools$Present" "givenToDark" "I", .methodLink RX7 142 yX1_warmthOfAll, .instanceMethod yX1_warmthOfAll, .selects RX1 yX1_warmthOfAll yX1_warmthOfAll, .initialized RX1, .code yX1_warmthOfAll cX1_warmthOfAll 4 (some .int), .fieldLink RX1 9 "SeenCools$Present" "warmth" "[I", .methodLink RX7 148 yX1_tooWarm, .instanceMethod yX1_tooWarm, .selects RX1 yX1_tooWarm yX1_tooWarm, .code yX1_tooWarm cX1_tooWarm 4 (some .int), .fieldLink RX1 48 "SeenCools$Yard" "number" "I", .fieldLink RX1 73 "SeenCools$Yard" "limit" "I", .methodLink RX7 151 yX1_warmest, .instanceMethod yX1_warmest, .selects RX1 yX1_warmest yX1_warmest, .code yX1_warmest cX1_warmest 4 (some .int)] ++ wsX70 ++ wsX10 ++ wsX60)
def wsX7_isWithin : List Cond := .code yX7_isWithin cX7_isWithin 2 (some .boolean) :: ([])
def wsX7_behind_r1 : List Cond := [Cond.fieldLink RX7 40 "SeenCools" "ahead" "LSeenCools$Ahead;", Cond.fieldLink RX7 26 "SeenCools" "present" "LSeenCools$Present;", Cond.fieldLink RX7 51 "SeenCools" "told" "LSeenCools$Yard;", Cond.fieldLink RX7 166 "SeenCools$Ahead" "then" "LSeenCools$Present;", Cond.fieldLink RX7 87 "SeenCools$Present" "warmth" "[I", Cond.methodLink RX7 154 yX7_isWithin, Cond.static yX7_isWithin, Cond.initialized RX7, Cond.code yX7_isWithin cX7_isWithin 2 (some .boolean), Cond.methodLink RX7 84 yX7_isWall, Cond.instanceMethod yX7_isWall, Cond.selects RX7 yX7_isWall yX7_isWall, Cond.code yX7_isWall cX7_isWall 2 (some .boolean), Cond.fieldLink RX7 141 "SeenCools$Yard" "number" "I", Cond.methodLink RX7 158 yX0_setOut, Cond.instanceMethod yX0_setOut, Cond.selects RX0 yX0_setOut yX0_setOut, Cond.initialized RX0, Cond.code yX0_setOut cX0_setOut 2 none, Cond.fieldLink RX0 12 "SeenCools$Ahead" "then" "LSeenCools$Present;", Cond.methodLink RX0 29 yX1_copy, Cond.instanceMethod yX1_copy, Cond.selects RX1 yX1_copy yX1_copy, Cond.initialized RX1]
def wsX7_behind_r2 : List Cond := [Cond.code yX1_copy cX1_copy 3 none, Cond.fieldLink RX1 21 "SeenCools$Present" "hours" "I", Cond.fieldLink RX1 25 "SeenCools$Present" "shutOnes" "I", Cond.fieldLink RX1 28 "SeenCools$Present" "mirrors" "I", Cond.fieldLink RX1 31 "SeenCools$Present" "givenToDark" "I", Cond.fieldLink RX1 9 "SeenCools$Present" "warmth" "[I", Cond.methodLink RX7 162 yX0_goOn, Cond.instanceMethod yX0_goOn, Cond.selects RX0 yX0_goOn yX0_goOn, Cond.code yX0_goOn cX0_goOn 4 none, Cond.methodLink RX0 33 yX1_goBy, Cond.instanceMethod yX1_goBy, Cond.selects RX1 yX1_goBy yX1_goBy, Cond.code yX1_goBy cX1_goBy 5 (some .int), Cond.fieldLink RX1 48 "SeenCools$Yard" "number" "I", Cond.fieldLink RX1 15 "SeenCools$Present" "warmthThen" "[I", Cond.fieldLink RX1 51 "SeenCools$Yard" "hours" "[I", Cond.fieldLink RX1 57 "SeenCools$Yard" "work" "[I", Cond.fieldLink RX1 60 "SeenCools$Yard" "furnace" "[I", Cond.static yX7_bit, Cond.code yX7_bit cX7_bit 2 (some .int), Cond.methodLink RX1 63 yX1_giveOff, Cond.instanceMethod yX1_giveOff, Cond.selects RX1 yX1_giveOff yX1_giveOff]
def wsX7_behind_r3 : List Cond := [Cond.code yX1_giveOff cX1_giveOff 7 (some .int), Cond.fieldLink RX1 67 "SeenCools$Yard" "rate" "[I", Cond.fieldLink RX1 70 "SeenCools$Yard" "parts" "[I"]
def wsX7_behind : List Cond := .code yX7_behind cX7_behind 3 (some .int) :: ((wsX7_behind_r1 ++ (wsX7_behind_r2 ++ wsX7_behind_r3)) ++ wsX70 ++ wsX00 ++ wsX10 ++ wsX60)
def wsX7_leastOf : List Cond := .code yX7_leastOf cX7_leastOf 2 (some .int) :: ([.methodLink RX7 107 yX7_bit, .static yX7_bit, .initialized RX7, .code yX7_bit cX7_bit 2 (some .int)])
def wsX7_first_r1 : List Cond := [Cond.fieldLink RX7 40 "SeenCools" "ahead" "LSeenCools$Ahead;", Cond.fieldLink RX7 26 "SeenCools" "present" "LSeenCools$Present;", Cond.fieldLink RX7 166 "SeenCools$Ahead" "then" "LSeenCools$Present;", Cond.fieldLink RX7 51 "SeenCools" "told" "LSeenCools$Yard;", Cond.methodLink RX7 123 yX7_isBit, Cond.static yX7_isBit, Cond.initialized RX7, Cond.code yX7_isBit cX7_isBit 1 (some .boolean), Cond.methodLink RX7 158 yX0_setOut, Cond.instanceMethod yX0_setOut, Cond.selects RX0 yX0_setOut yX0_setOut, Cond.initialized RX0, Cond.code yX0_setOut cX0_setOut 2 none, Cond.fieldLink RX0 12 "SeenCools$Ahead" "then" "LSeenCools$Present;", Cond.methodLink RX0 29 yX1_copy, Cond.instanceMethod yX1_copy, Cond.selects RX1 yX1_copy yX1_copy, Cond.initialized RX1, Cond.code yX1_copy cX1_copy 3 none, Cond.fieldLink RX1 21 "SeenCools$Present" "hours" "I", Cond.fieldLink RX1 25 "SeenCools$Present" "shutOnes" "I", Cond.fieldLink RX1 28 "SeenCools$Present" "mirrors" "I", Cond.fieldLink RX1 31 "SeenCools$Present" "givenToDark" "I", Cond.fieldLink RX1 9 "SeenCools$Present" "warmth" "[I"]
def wsX7_first_r2 : List Cond := [Cond.methodLink RX7 148 yX1_tooWarm, Cond.instanceMethod yX1_tooWarm, Cond.selects RX1 yX1_tooWarm yX1_tooWarm, Cond.code yX1_tooWarm cX1_tooWarm 4 (some .int), Cond.fieldLink RX1 48 "SeenCools$Yard" "number" "I", Cond.fieldLink RX1 73 "SeenCools$Yard" "limit" "I", Cond.methodLink RX7 169 yX7_leastOf, Cond.static yX7_leastOf, Cond.code yX7_leastOf cX7_leastOf 2 (some .int), Cond.methodLink RX7 107 yX7_bit, Cond.static yX7_bit, Cond.code yX7_bit cX7_bit 2 (some .int), Cond.methodLink RX7 162 yX0_goOn, Cond.instanceMethod yX0_goOn, Cond.selects RX0 yX0_goOn yX0_goOn, Cond.code yX0_goOn cX0_goOn 4 none, Cond.methodLink RX0 33 yX1_goBy, Cond.instanceMethod yX1_goBy, Cond.selects RX1 yX1_goBy yX1_goBy, Cond.code yX1_goBy cX1_goBy 5 (some .int), Cond.fieldLink RX1 15 "SeenCools$Present" "warmthThen" "[I", Cond.fieldLink RX1 51 "SeenCools$Yard" "hours" "[I", Cond.fieldLink RX1 57 "SeenCools$Yard" "work" "[I", Cond.fieldLink RX1 60 "SeenCools$Yard" "furnace" "[I"]
def wsX7_first_r3 : List Cond := [Cond.methodLink RX1 63 yX1_giveOff, Cond.instanceMethod yX1_giveOff, Cond.selects RX1 yX1_giveOff yX1_giveOff, Cond.code yX1_giveOff cX1_giveOff 7 (some .int), Cond.fieldLink RX1 67 "SeenCools$Yard" "rate" "[I", Cond.fieldLink RX1 70 "SeenCools$Yard" "parts" "[I"]
def wsX7_first : List Cond := .code yX7_first cX7_first 4 (some .int) :: ((wsX7_first_r1 ++ (wsX7_first_r2 ++ wsX7_first_r3)) ++ wsX70 ++ wsX00 ++ wsX10 ++ wsX60)
def wsX7_rest_r1 : List Cond := [Cond.fieldLink RX7 40 "SeenCools" "ahead" "LSeenCools$Ahead;", Cond.fieldLink RX7 26 "SeenCools" "present" "LSeenCools$Present;", Cond.fieldLink RX7 51 "SeenCools" "told" "LSeenCools$Yard;", Cond.methodLink RX7 158 yX0_setOut, Cond.instanceMethod yX0_setOut, Cond.selects RX0 yX0_setOut yX0_setOut, Cond.initialized RX0, Cond.code yX0_setOut cX0_setOut 2 none, Cond.fieldLink RX0 12 "SeenCools$Ahead" "then" "LSeenCools$Present;", Cond.methodLink RX0 29 yX1_copy, Cond.instanceMethod yX1_copy, Cond.selects RX1 yX1_copy yX1_copy, Cond.initialized RX1, Cond.code yX1_copy cX1_copy 3 none, Cond.fieldLink RX1 21 "SeenCools$Present" "hours" "I", Cond.fieldLink RX1 25 "SeenCools$Present" "shutOnes" "I", Cond.fieldLink RX1 28 "SeenCools$Present" "mirrors" "I", Cond.fieldLink RX1 31 "SeenCools$Present" "givenToDark" "I", Cond.fieldLink RX1 9 "SeenCools$Present" "warmth" "[I", Cond.methodLink RX7 172 yX0_hoursToRest, Cond.instanceMethod yX0_hoursToRest, Cond.selects RX0 yX0_hoursToRest yX0_hoursToRest, Cond.code yX0_hoursToRest cX0_hoursToRest 5 (some .int), Cond.fieldLink RX0 37 "SeenCools$Yard" "number" "I"]
def wsX7_rest_r2 : List Cond := [Cond.fieldLink RX0 25 "SeenCools$Ahead" "round" "[I", Cond.fieldLink RX0 45 "SeenCools$Present" "warmth" "[I", Cond.methodLink RX0 41 yX0_isAsInRow, Cond.instanceMethod yX0_isAsInRow, Cond.selects RX0 yX0_isAsInRow yX0_isAsInRow, Cond.code yX0_isAsInRow cX0_isAsInRow 4 (some .boolean), Cond.methodLink RX0 33 yX1_goBy, Cond.instanceMethod yX1_goBy, Cond.selects RX1 yX1_goBy yX1_goBy, Cond.code yX1_goBy cX1_goBy 5 (some .int), Cond.fieldLink RX1 48 "SeenCools$Yard" "number" "I", Cond.fieldLink RX1 15 "SeenCools$Present" "warmthThen" "[I", Cond.fieldLink RX1 51 "SeenCools$Yard" "hours" "[I", Cond.fieldLink RX1 57 "SeenCools$Yard" "work" "[I", Cond.fieldLink RX1 60 "SeenCools$Yard" "furnace" "[I", Cond.static yX7_bit, Cond.initialized RX7, Cond.code yX7_bit cX7_bit 2 (some .int), Cond.methodLink RX1 63 yX1_giveOff, Cond.instanceMethod yX1_giveOff, Cond.selects RX1 yX1_giveOff yX1_giveOff, Cond.code yX1_giveOff cX1_giveOff 7 (some .int), Cond.fieldLink RX1 67 "SeenCools$Yard" "rate" "[I", Cond.fieldLink RX1 70 "SeenCools$Yard" "parts" "[I"]
def wsX7_rest : List Cond := .code yX7_rest cX7_rest 1 (some .int) :: ((wsX7_rest_r1 ++ wsX7_rest_r2) ++ wsX70 ++ wsX00 ++ wsX10 ++ wsX60)
def wsX7_coolest_r1 : List Cond := [Cond.fieldLink RX7 51 "SeenCools" "told" "LSeenCools$Yard;", Cond.fieldLink RX7 141 "SeenCools$Yard" "number" "I", Cond.fieldLink RX7 40 "SeenCools" "ahead" "LSeenCools$Ahead;", Cond.fieldLink RX7 26 "SeenCools" "present" "LSeenCools$Present;", Cond.methodLink RX7 154 yX7_isWithin, Cond.static yX7_isWithin, Cond.initialized RX7, Cond.code yX7_isWithin cX7_isWithin 2 (some .boolean), Cond.methodLink RX7 123 yX7_isBit, Cond.static yX7_isBit, Cond.code yX7_isBit cX7_isBit 1 (some .boolean), Cond.methodLink RX7 175 yX0_warmestIfShut, Cond.instanceMethod yX0_warmestIfShut, Cond.selects RX0 yX0_warmestIfShut yX0_warmestIfShut, Cond.initialized RX0, Cond.code yX0_warmestIfShut cX0_warmestIfShut 5 (some .int), Cond.fieldLink RX0 12 "SeenCools$Ahead" "then" "LSeenCools$Present;", Cond.fieldLink RX0 51 "SeenCools$Present" "shutOnes" "I", Cond.fieldLink RX0 37 "SeenCools$Yard" "number" "I", Cond.methodLink RX0 48 yX0_setOut, Cond.instanceMethod yX0_setOut, Cond.selects RX0 yX0_setOut yX0_setOut, Cond.code yX0_setOut cX0_setOut 2 none, Cond.methodLink RX0 29 yX1_copy]
def wsX7_coolest_r2 : List Cond := [Cond.instanceMethod yX1_copy, Cond.selects RX1 yX1_copy yX1_copy, Cond.initialized RX1, Cond.code yX1_copy cX1_copy 3 none, Cond.fieldLink RX1 21 "SeenCools$Present" "hours" "I", Cond.fieldLink RX1 25 "SeenCools$Present" "shutOnes" "I", Cond.fieldLink RX1 28 "SeenCools$Present" "mirrors" "I", Cond.fieldLink RX1 31 "SeenCools$Present" "givenToDark" "I", Cond.fieldLink RX1 9 "SeenCools$Present" "warmth" "[I", Cond.methodLink RX0 54 yX0_goOn, Cond.instanceMethod yX0_goOn, Cond.selects RX0 yX0_goOn yX0_goOn, Cond.code yX0_goOn cX0_goOn 4 none, Cond.methodLink RX0 33 yX1_goBy, Cond.instanceMethod yX1_goBy, Cond.selects RX1 yX1_goBy yX1_goBy, Cond.code yX1_goBy cX1_goBy 5 (some .int), Cond.fieldLink RX1 48 "SeenCools$Yard" "number" "I", Cond.fieldLink RX1 15 "SeenCools$Present" "warmthThen" "[I", Cond.fieldLink RX1 51 "SeenCools$Yard" "hours" "[I", Cond.fieldLink RX1 57 "SeenCools$Yard" "work" "[I", Cond.fieldLink RX1 60 "SeenCools$Yard" "furnace" "[I", Cond.static yX7_bit, Cond.code yX7_bit cX7_bit 2 (some .int)]
def wsX7_coolest_r3 : List Cond := [Cond.methodLink RX1 63 yX1_giveOff, Cond.instanceMethod yX1_giveOff, Cond.selects RX1 yX1_giveOff yX1_giveOff, Cond.code yX1_giveOff cX1_giveOff 7 (some .int), Cond.fieldLink RX1 67 "SeenCools$Yard" "rate" "[I", Cond.fieldLink RX1 70 "SeenCools$Yard" "parts" "[I", Cond.methodLink RX0 58 yX1_warmthOfWarmest, Cond.instanceMethod yX1_warmthOfWarmest, Cond.selects RX1 yX1_warmthOfWarmest yX1_warmthOfWarmest, Cond.code yX1_warmthOfWarmest cX1_warmthOfWarmest 4 (some .int), Cond.methodLink RX1 76 Lib.Math.max.name, Cond.static Lib.Math.max.name, Cond.initialized "java/lang/Math", Cond.code Lib.Math.max.name Lib.Math.max.code 2 (some .int)]
def wsX7_coolest : List Cond := .code yX7_coolest cX7_coolest 7 (some .int) :: ((wsX7_coolest_r1 ++ (wsX7_coolest_r2 ++ wsX7_coolest_r3)) ++ wsX70 ++ wsX60 ++ wsX00 ++ wsX10)
def wsX7_busyHours_r1 : List Cond := [Cond.fieldLink RX7 40 "SeenCools" "ahead" "LSeenCools$Ahead;", Cond.fieldLink RX7 179 "SeenCools$Ahead" "asIf" "LSeenCools$Yard;", Cond.fieldLink RX7 97 "SeenCools$Yard" "hours" "[I", Cond.fieldLink RX7 26 "SeenCools" "present" "LSeenCools$Present;", Cond.methodLink RX7 130 yJ6_bitCount_0f7a4, Cond.static yJ6_bitCount_0f7a4, Cond.initialized RJ6, Cond.code yJ6_bitCount_0f7a4 cJ6_bitCount_0f7a4 1 (some .int), Cond.constant RJ6 265 (1431655765), Cond.constant RJ6 266 (858993459), Cond.constant RJ6 267 (252645135), Cond.methodLink RX7 241 yX0_staysCool, Cond.instanceMethod yX0_staysCool, Cond.selects RX0 yX0_staysCool yX0_staysCool, Cond.initialized RX0, Cond.code yX0_staysCool cX0_staysCool 4 (some .boolean), Cond.fieldLink RX0 12 "SeenCools$Ahead" "then" "LSeenCools$Present;", Cond.fieldLink RX0 21 "SeenCools$Ahead" "asIf" "LSeenCools$Yard;", Cond.methodLink RX0 48 yX0_setOut, Cond.instanceMethod yX0_setOut, Cond.selects RX0 yX0_setOut yX0_setOut, Cond.code yX0_setOut cX0_setOut 2 none, Cond.methodLink RX0 29 yX1_copy, Cond.instanceMethod yX1_copy]
def wsX7_busyHours_r2 : List Cond := [Cond.selects RX1 yX1_copy yX1_copy, Cond.initialized RX1, Cond.code yX1_copy cX1_copy 3 none, Cond.fieldLink RX1 21 "SeenCools$Present" "hours" "I", Cond.fieldLink RX1 25 "SeenCools$Present" "shutOnes" "I", Cond.fieldLink RX1 28 "SeenCools$Present" "mirrors" "I", Cond.fieldLink RX1 31 "SeenCools$Present" "givenToDark" "I", Cond.fieldLink RX1 9 "SeenCools$Present" "warmth" "[I", Cond.methodLink RX0 33 yX1_goBy, Cond.instanceMethod yX1_goBy, Cond.selects RX1 yX1_goBy yX1_goBy, Cond.code yX1_goBy cX1_goBy 5 (some .int), Cond.fieldLink RX1 48 "SeenCools$Yard" "number" "I", Cond.fieldLink RX1 15 "SeenCools$Present" "warmthThen" "[I", Cond.fieldLink RX1 51 "SeenCools$Yard" "hours" "[I", Cond.fieldLink RX1 57 "SeenCools$Yard" "work" "[I", Cond.fieldLink RX1 60 "SeenCools$Yard" "furnace" "[I", Cond.static yX7_bit, Cond.initialized RX7, Cond.code yX7_bit cX7_bit 2 (some .int), Cond.methodLink RX1 63 yX1_giveOff, Cond.instanceMethod yX1_giveOff, Cond.selects RX1 yX1_giveOff yX1_giveOff, Cond.code yX1_giveOff cX1_giveOff 7 (some .int)]
def wsX7_busyHours_r3 : List Cond := [Cond.fieldLink RX1 67 "SeenCools$Yard" "rate" "[I", Cond.fieldLink RX1 70 "SeenCools$Yard" "parts" "[I", Cond.methodLink RX0 65 yX1_tooWarm, Cond.instanceMethod yX1_tooWarm, Cond.selects RX1 yX1_tooWarm yX1_tooWarm, Cond.code yX1_tooWarm cX1_tooWarm 4 (some .int), Cond.fieldLink RX1 73 "SeenCools$Yard" "limit" "I"]
def wsX7_busyHours : List Cond := .code yX7_busyHours cX7_busyHours 4 (some .int) :: ((wsX7_busyHours_r1 ++ (wsX7_busyHours_r2 ++ wsX7_busyHours_r3)) ++ wsX70 ++ wsX00 ++ wsX60 ++ wsX10)
def wsX7_busy_r1 : List Cond := [Cond.fieldLink RX7 40 "SeenCools" "ahead" "LSeenCools$Ahead;", Cond.fieldLink RX7 179 "SeenCools$Ahead" "asIf" "LSeenCools$Yard;", Cond.fieldLink RX7 51 "SeenCools" "told" "LSeenCools$Yard;", Cond.methodLink RX7 84 yX7_isWall, Cond.instanceMethod yX7_isWall, Cond.selects RX7 yX7_isWall yX7_isWall, Cond.initialized RX7, Cond.code yX7_isWall cX7_isWall 2 (some .boolean), Cond.fieldLink RX7 141 "SeenCools$Yard" "number" "I", Cond.methodLink RX7 123 yX7_isBit, Cond.static yX7_isBit, Cond.code yX7_isBit cX7_isBit 1 (some .boolean), Cond.methodLink RX7 182 yX6_copy, Cond.instanceMethod yX6_copy, Cond.selects RX6 yX6_copy yX6_copy, Cond.initialized RX6, Cond.code yX6_copy cX6_copy 3 none, Cond.fieldLink RX6 36 "SeenCools$Yard" "number" "I", Cond.fieldLink RX6 44 "SeenCools$Yard" "limit" "I", Cond.fieldLink RX6 9 "SeenCools$Yard" "warmth" "[I", Cond.fieldLink RX6 15 "SeenCools$Yard" "rate" "[I", Cond.fieldLink RX6 18 "SeenCools$Yard" "work" "[I", Cond.fieldLink RX6 21 "SeenCools$Yard" "hours" "[I", Cond.fieldLink RX6 27 "SeenCools$Yard" "partsOfAll" "[I"]
def wsX7_busy_r2 : List Cond := [Cond.fieldLink RX6 30 "SeenCools$Yard" "furnace" "[I", Cond.fieldLink RX6 24 "SeenCools$Yard" "parts" "[I", Cond.methodLink RX7 185 yX7_busyHours, Cond.instanceMethod yX7_busyHours, Cond.selects RX7 yX7_busyHours yX7_busyHours, Cond.code yX7_busyHours cX7_busyHours 4 (some .int), Cond.fieldLink RX7 97 "SeenCools$Yard" "hours" "[I", Cond.fieldLink RX7 26 "SeenCools" "present" "LSeenCools$Present;", Cond.methodLink RX7 130 yJ6_bitCount_0f7a4, Cond.static yJ6_bitCount_0f7a4, Cond.initialized RJ6, Cond.code yJ6_bitCount_0f7a4 cJ6_bitCount_0f7a4 1 (some .int), Cond.constant RJ6 265 (1431655765), Cond.constant RJ6 266 (858993459), Cond.constant RJ6 267 (252645135), Cond.methodLink RX7 241 yX0_staysCool, Cond.instanceMethod yX0_staysCool, Cond.selects RX0 yX0_staysCool yX0_staysCool, Cond.initialized RX0, Cond.code yX0_staysCool cX0_staysCool 4 (some .boolean), Cond.fieldLink RX0 12 "SeenCools$Ahead" "then" "LSeenCools$Present;", Cond.fieldLink RX0 21 "SeenCools$Ahead" "asIf" "LSeenCools$Yard;", Cond.methodLink RX0 48 yX0_setOut, Cond.instanceMethod yX0_setOut]
def wsX7_busy_r3 : List Cond := [Cond.selects RX0 yX0_setOut yX0_setOut, Cond.code yX0_setOut cX0_setOut 2 none, Cond.methodLink RX0 29 yX1_copy, Cond.instanceMethod yX1_copy, Cond.selects RX1 yX1_copy yX1_copy, Cond.initialized RX1, Cond.code yX1_copy cX1_copy 3 none, Cond.fieldLink RX1 21 "SeenCools$Present" "hours" "I", Cond.fieldLink RX1 25 "SeenCools$Present" "shutOnes" "I", Cond.fieldLink RX1 28 "SeenCools$Present" "mirrors" "I", Cond.fieldLink RX1 31 "SeenCools$Present" "givenToDark" "I", Cond.fieldLink RX1 9 "SeenCools$Present" "warmth" "[I", Cond.methodLink RX0 33 yX1_goBy, Cond.instanceMethod yX1_goBy, Cond.selects RX1 yX1_goBy yX1_goBy, Cond.code yX1_goBy cX1_goBy 5 (some .int), Cond.fieldLink RX1 48 "SeenCools$Yard" "number" "I", Cond.fieldLink RX1 15 "SeenCools$Present" "warmthThen" "[I", Cond.fieldLink RX1 51 "SeenCools$Yard" "hours" "[I", Cond.fieldLink RX1 57 "SeenCools$Yard" "work" "[I", Cond.fieldLink RX1 60 "SeenCools$Yard" "furnace" "[I", Cond.static yX7_bit, Cond.code yX7_bit cX7_bit 2 (some .int), Cond.methodLink RX1 63 yX1_giveOff]
def wsX7_busy_r4 : List Cond := [Cond.instanceMethod yX1_giveOff, Cond.selects RX1 yX1_giveOff yX1_giveOff, Cond.code yX1_giveOff cX1_giveOff 7 (some .int), Cond.fieldLink RX1 67 "SeenCools$Yard" "rate" "[I", Cond.fieldLink RX1 70 "SeenCools$Yard" "parts" "[I", Cond.methodLink RX0 65 yX1_tooWarm, Cond.instanceMethod yX1_tooWarm, Cond.selects RX1 yX1_tooWarm yX1_tooWarm, Cond.code yX1_tooWarm cX1_tooWarm 4 (some .int), Cond.fieldLink RX1 73 "SeenCools$Yard" "limit" "I"]
def wsX7_busy : List Cond := .code yX7_busy cX7_busy 5 (some .int) :: ((wsX7_busy_r1 ++ (wsX7_busy_r2 ++ (wsX7_busy_r3 ++ wsX7_busy_r4))) ++ wsX70 ++ wsX00 ++ wsX60 ++ wsX10)
def wsX7_blanketOf_r1 : List Cond := [Cond.fieldLink RX7 26 "SeenCools" "present" "LSeenCools$Present;", Cond.fieldLink RX7 111 "SeenCools$Present" "mirrors" "I", Cond.fieldLink RX7 51 "SeenCools" "told" "LSeenCools$Yard;", Cond.fieldLink RX7 141 "SeenCools$Yard" "number" "I", Cond.fieldLink RX7 40 "SeenCools" "ahead" "LSeenCools$Ahead;", Cond.methodLink RX7 130 yJ6_bitCount_0f7a4, Cond.static yJ6_bitCount_0f7a4, Cond.initialized RJ6, Cond.code yJ6_bitCount_0f7a4 cJ6_bitCount_0f7a4 1 (some .int), Cond.constant RJ6 265 (1431655765), Cond.constant RJ6 266 (858993459), Cond.constant RJ6 267 (252645135), Cond.methodLink RX7 245 yX0_warmthIfMirrors, Cond.instanceMethod yX0_warmthIfMirrors, Cond.selects RX0 yX0_warmthIfMirrors yX0_warmthIfMirrors, Cond.initialized RX0, Cond.code yX0_warmthIfMirrors cX0_warmthIfMirrors 6 (some .int), Cond.fieldLink RX0 12 "SeenCools$Ahead" "then" "LSeenCools$Present;", Cond.fieldLink RX0 62 "SeenCools$Present" "mirrors" "I", Cond.fieldLink RX0 45 "SeenCools$Present" "warmth" "[I", Cond.methodLink RX0 48 yX0_setOut, Cond.instanceMethod yX0_setOut, Cond.selects RX0 yX0_setOut yX0_setOut, Cond.code yX0_setOut cX0_setOut 2 none]
def wsX7_blanketOf_r2 : List Cond := [Cond.methodLink RX0 29 yX1_copy, Cond.instanceMethod yX1_copy, Cond.selects RX1 yX1_copy yX1_copy, Cond.initialized RX1, Cond.code yX1_copy cX1_copy 3 none, Cond.fieldLink RX1 21 "SeenCools$Present" "hours" "I", Cond.fieldLink RX1 25 "SeenCools$Present" "shutOnes" "I", Cond.fieldLink RX1 28 "SeenCools$Present" "mirrors" "I", Cond.fieldLink RX1 31 "SeenCools$Present" "givenToDark" "I", Cond.fieldLink RX1 9 "SeenCools$Present" "warmth" "[I", Cond.methodLink RX0 54 yX0_goOn, Cond.instanceMethod yX0_goOn, Cond.selects RX0 yX0_goOn yX0_goOn, Cond.code yX0_goOn cX0_goOn 4 none, Cond.methodLink RX0 33 yX1_goBy, Cond.instanceMethod yX1_goBy, Cond.selects RX1 yX1_goBy yX1_goBy, Cond.code yX1_goBy cX1_goBy 5 (some .int), Cond.fieldLink RX1 48 "SeenCools$Yard" "number" "I", Cond.fieldLink RX1 15 "SeenCools$Present" "warmthThen" "[I", Cond.fieldLink RX1 51 "SeenCools$Yard" "hours" "[I", Cond.fieldLink RX1 57 "SeenCools$Yard" "work" "[I", Cond.fieldLink RX1 60 "SeenCools$Yard" "furnace" "[I", Cond.static yX7_bit]
def wsX7_blanketOf_r3 : List Cond := [Cond.initialized RX7, Cond.code yX7_bit cX7_bit 2 (some .int), Cond.methodLink RX1 63 yX1_giveOff, Cond.instanceMethod yX1_giveOff, Cond.selects RX1 yX1_giveOff yX1_giveOff, Cond.code yX1_giveOff cX1_giveOff 7 (some .int), Cond.fieldLink RX1 67 "SeenCools$Yard" "rate" "[I", Cond.fieldLink RX1 70 "SeenCools$Yard" "parts" "[I"]
def wsX7_blanketOf : List Cond := .code yX7_blanketOf cX7_blanketOf 7 (some .int) :: ((wsX7_blanketOf_r1 ++ (wsX7_blanketOf_r2 ++ wsX7_blanketOf_r3)) ++ wsX70 ++ wsX10 ++ wsX60 ++ wsX00)
def wsX7_blanket_r1 : List Cond := [Cond.fieldLink RX7 51 "SeenCools" "told" "LSeenCools$Yard;", Cond.fieldLink RX7 141 "SeenCools$Yard" "number" "I", Cond.methodLink RX7 84 yX7_isWall, Cond.instanceMethod yX7_isWall, Cond.selects RX7 yX7_isWall yX7_isWall, Cond.initialized RX7, Cond.code yX7_isWall cX7_isWall 2 (some .boolean), Cond.methodLink RX7 154 yX7_isWithin, Cond.static yX7_isWithin, Cond.code yX7_isWithin cX7_isWithin 2 (some .boolean), Cond.methodLink RX7 188 yX7_blanketOf, Cond.instanceMethod yX7_blanketOf, Cond.selects RX7 yX7_blanketOf yX7_blanketOf, Cond.code yX7_blanketOf cX7_blanketOf 7 (some .int), Cond.fieldLink RX7 26 "SeenCools" "present" "LSeenCools$Present;", Cond.fieldLink RX7 111 "SeenCools$Present" "mirrors" "I", Cond.fieldLink RX7 40 "SeenCools" "ahead" "LSeenCools$Ahead;", Cond.methodLink RX7 130 yJ6_bitCount_0f7a4, Cond.static yJ6_bitCount_0f7a4, Cond.initialized RJ6, Cond.code yJ6_bitCount_0f7a4 cJ6_bitCount_0f7a4 1 (some .int), Cond.constant RJ6 265 (1431655765), Cond.constant RJ6 266 (858993459), Cond.constant RJ6 267 (252645135)]
def wsX7_blanket_r2 : List Cond := [Cond.methodLink RX7 245 yX0_warmthIfMirrors, Cond.instanceMethod yX0_warmthIfMirrors, Cond.selects RX0 yX0_warmthIfMirrors yX0_warmthIfMirrors, Cond.initialized RX0, Cond.code yX0_warmthIfMirrors cX0_warmthIfMirrors 6 (some .int), Cond.fieldLink RX0 12 "SeenCools$Ahead" "then" "LSeenCools$Present;", Cond.fieldLink RX0 62 "SeenCools$Present" "mirrors" "I", Cond.fieldLink RX0 45 "SeenCools$Present" "warmth" "[I", Cond.methodLink RX0 48 yX0_setOut, Cond.instanceMethod yX0_setOut, Cond.selects RX0 yX0_setOut yX0_setOut, Cond.code yX0_setOut cX0_setOut 2 none, Cond.methodLink RX0 29 yX1_copy, Cond.instanceMethod yX1_copy, Cond.selects RX1 yX1_copy yX1_copy, Cond.initialized RX1, Cond.code yX1_copy cX1_copy 3 none, Cond.fieldLink RX1 21 "SeenCools$Present" "hours" "I", Cond.fieldLink RX1 25 "SeenCools$Present" "shutOnes" "I", Cond.fieldLink RX1 28 "SeenCools$Present" "mirrors" "I", Cond.fieldLink RX1 31 "SeenCools$Present" "givenToDark" "I", Cond.fieldLink RX1 9 "SeenCools$Present" "warmth" "[I", Cond.methodLink RX0 54 yX0_goOn, Cond.instanceMethod yX0_goOn]
def wsX7_blanket_r3 : List Cond := [Cond.selects RX0 yX0_goOn yX0_goOn, Cond.code yX0_goOn cX0_goOn 4 none, Cond.methodLink RX0 33 yX1_goBy, Cond.instanceMethod yX1_goBy, Cond.selects RX1 yX1_goBy yX1_goBy, Cond.code yX1_goBy cX1_goBy 5 (some .int), Cond.fieldLink RX1 48 "SeenCools$Yard" "number" "I", Cond.fieldLink RX1 15 "SeenCools$Present" "warmthThen" "[I", Cond.fieldLink RX1 51 "SeenCools$Yard" "hours" "[I", Cond.fieldLink RX1 57 "SeenCools$Yard" "work" "[I", Cond.fieldLink RX1 60 "SeenCools$Yard" "furnace" "[I", Cond.static yX7_bit, Cond.code yX7_bit cX7_bit 2 (some .int), Cond.methodLink RX1 63 yX1_giveOff, Cond.instanceMethod yX1_giveOff, Cond.selects RX1 yX1_giveOff yX1_giveOff, Cond.code yX1_giveOff cX1_giveOff 7 (some .int), Cond.fieldLink RX1 67 "SeenCools$Yard" "rate" "[I", Cond.fieldLink RX1 70 "SeenCools$Yard" "parts" "[I"]
def wsX7_blanket : List Cond := .code yX7_blanket cX7_blanket 6 (some .int) :: ((wsX7_blanket_r1 ++ (wsX7_blanket_r2 ++ wsX7_blanket_r3)) ++ wsX70 ++ wsX60 ++ wsX10 ++ wsX00)
def wsX7_harmDone_r1 : List Cond := [Cond.fieldLink RX7 40 "SeenCools" "ahead" "LSeenCools$Ahead;", Cond.fieldLink RX7 179 "SeenCools$Ahead" "asIf" "LSeenCools$Yard;", Cond.fieldLink RX7 51 "SeenCools" "told" "LSeenCools$Yard;", Cond.fieldLink RX7 26 "SeenCools" "present" "LSeenCools$Present;", Cond.fieldLink RX7 166 "SeenCools$Ahead" "then" "LSeenCools$Present;", Cond.fieldLink RX7 141 "SeenCools$Yard" "number" "I", Cond.fieldLink RX7 249 "SeenCools$Yard" "furnace" "[I", Cond.methodLink RX7 182 yX6_copy, Cond.instanceMethod yX6_copy, Cond.selects RX6 yX6_copy yX6_copy, Cond.initialized RX6, Cond.code yX6_copy cX6_copy 3 none, Cond.fieldLink RX6 36 "SeenCools$Yard" "number" "I", Cond.fieldLink RX6 44 "SeenCools$Yard" "limit" "I", Cond.fieldLink RX6 9 "SeenCools$Yard" "warmth" "[I", Cond.fieldLink RX6 15 "SeenCools$Yard" "rate" "[I", Cond.fieldLink RX6 18 "SeenCools$Yard" "work" "[I", Cond.fieldLink RX6 21 "SeenCools$Yard" "hours" "[I", Cond.fieldLink RX6 27 "SeenCools$Yard" "partsOfAll" "[I", Cond.fieldLink RX6 30 "SeenCools$Yard" "furnace" "[I", Cond.fieldLink RX6 24 "SeenCools$Yard" "parts" "[I", Cond.methodLink RX7 158 yX0_setOut, Cond.instanceMethod yX0_setOut, Cond.selects RX0 yX0_setOut yX0_setOut]
def wsX7_harmDone_r2 : List Cond := [Cond.initialized RX0, Cond.code yX0_setOut cX0_setOut 2 none, Cond.fieldLink RX0 12 "SeenCools$Ahead" "then" "LSeenCools$Present;", Cond.methodLink RX0 29 yX1_copy, Cond.instanceMethod yX1_copy, Cond.selects RX1 yX1_copy yX1_copy, Cond.initialized RX1, Cond.code yX1_copy cX1_copy 3 none, Cond.fieldLink RX1 21 "SeenCools$Present" "hours" "I", Cond.fieldLink RX1 25 "SeenCools$Present" "shutOnes" "I", Cond.fieldLink RX1 28 "SeenCools$Present" "mirrors" "I", Cond.fieldLink RX1 31 "SeenCools$Present" "givenToDark" "I", Cond.fieldLink RX1 9 "SeenCools$Present" "warmth" "[I", Cond.methodLink RX7 162 yX0_goOn, Cond.instanceMethod yX0_goOn, Cond.selects RX0 yX0_goOn yX0_goOn, Cond.code yX0_goOn cX0_goOn 4 none, Cond.methodLink RX0 33 yX1_goBy, Cond.instanceMethod yX1_goBy, Cond.selects RX1 yX1_goBy yX1_goBy, Cond.code yX1_goBy cX1_goBy 5 (some .int), Cond.fieldLink RX1 48 "SeenCools$Yard" "number" "I", Cond.fieldLink RX1 15 "SeenCools$Present" "warmthThen" "[I", Cond.fieldLink RX1 51 "SeenCools$Yard" "hours" "[I"]
def wsX7_harmDone_r3 : List Cond := [Cond.fieldLink RX1 57 "SeenCools$Yard" "work" "[I", Cond.fieldLink RX1 60 "SeenCools$Yard" "furnace" "[I", Cond.static yX7_bit, Cond.initialized RX7, Cond.code yX7_bit cX7_bit 2 (some .int), Cond.methodLink RX1 63 yX1_giveOff, Cond.instanceMethod yX1_giveOff, Cond.selects RX1 yX1_giveOff yX1_giveOff, Cond.code yX1_giveOff cX1_giveOff 7 (some .int), Cond.fieldLink RX1 67 "SeenCools$Yard" "rate" "[I", Cond.fieldLink RX1 70 "SeenCools$Yard" "parts" "[I", Cond.methodLink RX7 142 yX1_warmthOfAll, Cond.instanceMethod yX1_warmthOfAll, Cond.selects RX1 yX1_warmthOfAll yX1_warmthOfAll, Cond.code yX1_warmthOfAll cX1_warmthOfAll 4 (some .int)]
def wsX7_harmDone : List Cond := .code yX7_harmDone cX7_harmDone 4 (some .int) :: ((wsX7_harmDone_r1 ++ (wsX7_harmDone_r2 ++ wsX7_harmDone_r3)) ++ wsX70 ++ wsX00 ++ wsX60 ++ wsX10)
def wsX7_leastHarmed_r1 : List Cond := [Cond.fieldLink RX7 51 "SeenCools" "told" "LSeenCools$Yard;", Cond.fieldLink RX7 141 "SeenCools$Yard" "number" "I", Cond.methodLink RX7 196 yX7_harmDone, Cond.instanceMethod yX7_harmDone, Cond.selects RX7 yX7_harmDone yX7_harmDone, Cond.initialized RX7, Cond.code yX7_harmDone cX7_harmDone 4 (some .int), Cond.fieldLink RX7 40 "SeenCools" "ahead" "LSeenCools$Ahead;", Cond.fieldLink RX7 179 "SeenCools$Ahead" "asIf" "LSeenCools$Yard;", Cond.fieldLink RX7 26 "SeenCools" "present" "LSeenCools$Present;", Cond.fieldLink RX7 166 "SeenCools$Ahead" "then" "LSeenCools$Present;", Cond.fieldLink RX7 249 "SeenCools$Yard" "furnace" "[I", Cond.methodLink RX7 182 yX6_copy, Cond.instanceMethod yX6_copy, Cond.selects RX6 yX6_copy yX6_copy, Cond.initialized RX6, Cond.code yX6_copy cX6_copy 3 none, Cond.fieldLink RX6 36 "SeenCools$Yard" "number" "I", Cond.fieldLink RX6 44 "SeenCools$Yard" "limit" "I", Cond.fieldLink RX6 9 "SeenCools$Yard" "warmth" "[I", Cond.fieldLink RX6 15 "SeenCools$Yard" "rate" "[I", Cond.fieldLink RX6 18 "SeenCools$Yard" "work" "[I", Cond.fieldLink RX6 21 "SeenCools$Yard" "hours" "[I", Cond.fieldLink RX6 27 "SeenCools$Yard" "partsOfAll" "[I"]
def wsX7_leastHarmed_r2 : List Cond := [Cond.fieldLink RX6 30 "SeenCools$Yard" "furnace" "[I", Cond.fieldLink RX6 24 "SeenCools$Yard" "parts" "[I", Cond.methodLink RX7 158 yX0_setOut, Cond.instanceMethod yX0_setOut, Cond.selects RX0 yX0_setOut yX0_setOut, Cond.initialized RX0, Cond.code yX0_setOut cX0_setOut 2 none, Cond.fieldLink RX0 12 "SeenCools$Ahead" "then" "LSeenCools$Present;", Cond.methodLink RX0 29 yX1_copy, Cond.instanceMethod yX1_copy, Cond.selects RX1 yX1_copy yX1_copy, Cond.initialized RX1, Cond.code yX1_copy cX1_copy 3 none, Cond.fieldLink RX1 21 "SeenCools$Present" "hours" "I", Cond.fieldLink RX1 25 "SeenCools$Present" "shutOnes" "I", Cond.fieldLink RX1 28 "SeenCools$Present" "mirrors" "I", Cond.fieldLink RX1 31 "SeenCools$Present" "givenToDark" "I", Cond.fieldLink RX1 9 "SeenCools$Present" "warmth" "[I", Cond.methodLink RX7 162 yX0_goOn, Cond.instanceMethod yX0_goOn, Cond.selects RX0 yX0_goOn yX0_goOn, Cond.code yX0_goOn cX0_goOn 4 none, Cond.methodLink RX0 33 yX1_goBy, Cond.instanceMethod yX1_goBy]
def wsX7_leastHarmed_r3 : List Cond := [Cond.selects RX1 yX1_goBy yX1_goBy, Cond.code yX1_goBy cX1_goBy 5 (some .int), Cond.fieldLink RX1 48 "SeenCools$Yard" "number" "I", Cond.fieldLink RX1 15 "SeenCools$Present" "warmthThen" "[I", Cond.fieldLink RX1 51 "SeenCools$Yard" "hours" "[I", Cond.fieldLink RX1 57 "SeenCools$Yard" "work" "[I", Cond.fieldLink RX1 60 "SeenCools$Yard" "furnace" "[I", Cond.static yX7_bit, Cond.code yX7_bit cX7_bit 2 (some .int), Cond.methodLink RX1 63 yX1_giveOff, Cond.instanceMethod yX1_giveOff, Cond.selects RX1 yX1_giveOff yX1_giveOff, Cond.code yX1_giveOff cX1_giveOff 7 (some .int), Cond.fieldLink RX1 67 "SeenCools$Yard" "rate" "[I", Cond.fieldLink RX1 70 "SeenCools$Yard" "parts" "[I", Cond.methodLink RX7 142 yX1_warmthOfAll, Cond.instanceMethod yX1_warmthOfAll, Cond.selects RX1 yX1_warmthOfAll yX1_warmthOfAll, Cond.code yX1_warmthOfAll cX1_warmthOfAll 4 (some .int)]
def wsX7_leastHarmed : List Cond := .code yX7_leastHarmed cX7_leastHarmed 6 (some .int) :: ((wsX7_leastHarmed_r1 ++ (wsX7_leastHarmed_r2 ++ wsX7_leastHarmed_r3)) ++ wsX70 ++ wsX60 ++ wsX00 ++ wsX10)
def wsX7_harm_r1 : List Cond := [Cond.constant RX7 192 (-1000000), Cond.methodLink RX7 84 yX7_isWall, Cond.instanceMethod yX7_isWall, Cond.selects RX7 yX7_isWall yX7_isWall, Cond.initialized RX7, Cond.code yX7_isWall cX7_isWall 2 (some .boolean), Cond.fieldLink RX7 51 "SeenCools" "told" "LSeenCools$Yard;", Cond.fieldLink RX7 141 "SeenCools$Yard" "number" "I", Cond.methodLink RX7 193 yX7_leastHarmed, Cond.instanceMethod yX7_leastHarmed, Cond.selects RX7 yX7_leastHarmed yX7_leastHarmed, Cond.code yX7_leastHarmed cX7_leastHarmed 6 (some .int), Cond.methodLink RX7 196 yX7_harmDone, Cond.instanceMethod yX7_harmDone, Cond.selects RX7 yX7_harmDone yX7_harmDone, Cond.code yX7_harmDone cX7_harmDone 4 (some .int), Cond.fieldLink RX7 40 "SeenCools" "ahead" "LSeenCools$Ahead;", Cond.fieldLink RX7 179 "SeenCools$Ahead" "asIf" "LSeenCools$Yard;", Cond.fieldLink RX7 26 "SeenCools" "present" "LSeenCools$Present;", Cond.fieldLink RX7 166 "SeenCools$Ahead" "then" "LSeenCools$Present;", Cond.fieldLink RX7 249 "SeenCools$Yard" "furnace" "[I", Cond.methodLink RX7 182 yX6_copy, Cond.instanceMethod yX6_copy, Cond.selects RX6 yX6_copy yX6_copy]
def wsX7_harm_r2 : List Cond := [Cond.initialized RX6, Cond.code yX6_copy cX6_copy 3 none, Cond.fieldLink RX6 36 "SeenCools$Yard" "number" "I", Cond.fieldLink RX6 44 "SeenCools$Yard" "limit" "I", Cond.fieldLink RX6 9 "SeenCools$Yard" "warmth" "[I", Cond.fieldLink RX6 15 "SeenCools$Yard" "rate" "[I", Cond.fieldLink RX6 18 "SeenCools$Yard" "work" "[I", Cond.fieldLink RX6 21 "SeenCools$Yard" "hours" "[I", Cond.fieldLink RX6 27 "SeenCools$Yard" "partsOfAll" "[I", Cond.fieldLink RX6 30 "SeenCools$Yard" "furnace" "[I", Cond.fieldLink RX6 24 "SeenCools$Yard" "parts" "[I", Cond.methodLink RX7 158 yX0_setOut, Cond.instanceMethod yX0_setOut, Cond.selects RX0 yX0_setOut yX0_setOut, Cond.initialized RX0, Cond.code yX0_setOut cX0_setOut 2 none, Cond.fieldLink RX0 12 "SeenCools$Ahead" "then" "LSeenCools$Present;", Cond.methodLink RX0 29 yX1_copy, Cond.instanceMethod yX1_copy, Cond.selects RX1 yX1_copy yX1_copy, Cond.initialized RX1, Cond.code yX1_copy cX1_copy 3 none, Cond.fieldLink RX1 21 "SeenCools$Present" "hours" "I", Cond.fieldLink RX1 25 "SeenCools$Present" "shutOnes" "I"]
def wsX7_harm_r3 : List Cond := [Cond.fieldLink RX1 28 "SeenCools$Present" "mirrors" "I", Cond.fieldLink RX1 31 "SeenCools$Present" "givenToDark" "I", Cond.fieldLink RX1 9 "SeenCools$Present" "warmth" "[I", Cond.methodLink RX7 162 yX0_goOn, Cond.instanceMethod yX0_goOn, Cond.selects RX0 yX0_goOn yX0_goOn, Cond.code yX0_goOn cX0_goOn 4 none, Cond.methodLink RX0 33 yX1_goBy, Cond.instanceMethod yX1_goBy, Cond.selects RX1 yX1_goBy yX1_goBy, Cond.code yX1_goBy cX1_goBy 5 (some .int), Cond.fieldLink RX1 48 "SeenCools$Yard" "number" "I", Cond.fieldLink RX1 15 "SeenCools$Present" "warmthThen" "[I", Cond.fieldLink RX1 51 "SeenCools$Yard" "hours" "[I", Cond.fieldLink RX1 57 "SeenCools$Yard" "work" "[I", Cond.fieldLink RX1 60 "SeenCools$Yard" "furnace" "[I", Cond.static yX7_bit, Cond.code yX7_bit cX7_bit 2 (some .int), Cond.methodLink RX1 63 yX1_giveOff, Cond.instanceMethod yX1_giveOff, Cond.selects RX1 yX1_giveOff yX1_giveOff, Cond.code yX1_giveOff cX1_giveOff 7 (some .int), Cond.fieldLink RX1 67 "SeenCools$Yard" "rate" "[I", Cond.fieldLink RX1 70 "SeenCools$Yard" "parts" "[I"]
def wsX7_harm_r4 : List Cond := [Cond.methodLink RX7 142 yX1_warmthOfAll, Cond.instanceMethod yX1_warmthOfAll, Cond.selects RX1 yX1_warmthOfAll yX1_warmthOfAll, Cond.code yX1_warmthOfAll cX1_warmthOfAll 4 (some .int)]
def wsX7_harm : List Cond := .code yX7_harm cX7_harm 3 (some .int) :: ((wsX7_harm_r1 ++ (wsX7_harm_r2 ++ (wsX7_harm_r3 ++ wsX7_harm_r4))) ++ wsX70 ++ wsX60 ++ wsX00 ++ wsX10)
def wsX7_saw : List Cond := .code yX7_saw cX7_saw 4 (some .int) :: ([.fieldLink RX7 33 "SeenCools" "sights" "LSeenCools$Sights;", .fieldLink RX7 78 "SeenCools$Sights" "number" "I", .methodLink RX7 154 yX7_isWithin, .static yX7_isWithin, .initialized RX7, .code yX7_isWithin cX7_isWithin 2 (some .boolean), .methodLink RX7 84 yX7_isWall, .instanceMethod yX7_isWall, .selects RX7 yX7_isWall yX7_isWall, .code yX7_isWall cX7_isWall 2 (some .boolean), .fieldLink RX7 51 "SeenCools" "told" "LSeenCools$Yard;", .fieldLink RX7 141 "SeenCools$Yard" "number" "I", .methodLink RX7 199 yX3_add, .instanceMethod yX3_add, .selects RX3 yX3_add yX3_add, .initialized RX3, .code yX3_add cX3_add 4 none, .fieldLink RX3 21 "SeenCools$Sights" "number" "I", .fieldLink RX3 9 "SeenCools$Sights" "behindHours" "[I", .fieldLink RX3 15 "SeenCools$Sights" "which" "[I", .fieldLink RX3 18 "SeenCools$Sights" "warmth" "[I"] ++ wsX70 ++ wsX30 ++ wsX60)
def wsX7_forget : List Cond := .code yX7_forget cX7_forget 2 (some .int) :: ([.fieldLink RX7 33 "SeenCools" "sights" "LSeenCools$Sights;", .fieldLink RX7 78 "SeenCools$Sights" "number" "I"] ++ wsX70 ++ wsX30)
def wsX7_holeRate_r1 : List Cond := [Cond.fieldLink RX7 40 "SeenCools" "ahead" "LSeenCools$Ahead;", Cond.fieldLink RX7 179 "SeenCools$Ahead" "asIf" "LSeenCools$Yard;", Cond.fieldLink RX7 91 "SeenCools$Yard" "rate" "[I", Cond.fieldLink RX7 51 "SeenCools" "told" "LSeenCools$Yard;", Cond.fieldLink RX7 33 "SeenCools" "sights" "LSeenCools$Sights;", Cond.methodLink RX7 252 yX0_allSeenIsSo, Cond.instanceMethod yX0_allSeenIsSo, Cond.selects RX0 yX0_allSeenIsSo yX0_allSeenIsSo, Cond.initialized RX0, Cond.code yX0_allSeenIsSo cX0_allSeenIsSo 4 (some .boolean), Cond.fieldLink RX0 12 "SeenCools$Ahead" "then" "LSeenCools$Present;", Cond.fieldLink RX0 21 "SeenCools$Ahead" "asIf" "LSeenCools$Yard;", Cond.methodLink RX0 68 yX1_begin, Cond.instanceMethod yX1_begin, Cond.selects RX1 yX1_begin yX1_begin, Cond.initialized RX1, Cond.code yX1_begin cX1_begin 3 none, Cond.fieldLink RX1 21 "SeenCools$Present" "hours" "I", Cond.fieldLink RX1 25 "SeenCools$Present" "shutOnes" "I", Cond.fieldLink RX1 28 "SeenCools$Present" "mirrors" "I", Cond.fieldLink RX1 31 "SeenCools$Present" "givenToDark" "I", Cond.fieldLink RX1 34 "SeenCools$Present" "changesKnown" "I", Cond.fieldLink RX1 9 "SeenCools$Present" "warmth" "[I", Cond.fieldLink RX1 37 "SeenCools$Yard" "warmth" "[I"]
def wsX7_holeRate_r2 : List Cond := [Cond.methodLink RX0 72 yX3_latest, Cond.instanceMethod yX3_latest, Cond.selects RX3 yX3_latest yX3_latest, Cond.initialized RX3, Cond.code yX3_latest cX3_latest 3 (some .int), Cond.fieldLink RX3 21 "SeenCools$Sights" "number" "I", Cond.fieldLink RX3 9 "SeenCools$Sights" "behindHours" "[I", Cond.methodLink RX3 25 Lib.Math.max.name, Cond.static Lib.Math.max.name, Cond.initialized "java/lang/Math", Cond.code Lib.Math.max.name Lib.Math.max.code 2 (some .int), Cond.methodLink RX0 78 yX3_areSo, Cond.instanceMethod yX3_areSo, Cond.selects RX3 yX3_areSo yX3_areSo, Cond.code yX3_areSo cX3_areSo 4 (some .boolean), Cond.fieldLink RX3 31 "SeenCools$Present" "warmth" "[I", Cond.fieldLink RX3 15 "SeenCools$Sights" "which" "[I", Cond.fieldLink RX3 18 "SeenCools$Sights" "warmth" "[I", Cond.methodLink RX0 33 yX1_goBy, Cond.instanceMethod yX1_goBy, Cond.selects RX1 yX1_goBy yX1_goBy, Cond.code yX1_goBy cX1_goBy 5 (some .int), Cond.fieldLink RX1 48 "SeenCools$Yard" "number" "I", Cond.fieldLink RX1 15 "SeenCools$Present" "warmthThen" "[I"]
def wsX7_holeRate_r3 : List Cond := [Cond.fieldLink RX1 51 "SeenCools$Yard" "hours" "[I", Cond.fieldLink RX1 57 "SeenCools$Yard" "work" "[I", Cond.fieldLink RX1 60 "SeenCools$Yard" "furnace" "[I", Cond.static yX7_bit, Cond.initialized RX7, Cond.code yX7_bit cX7_bit 2 (some .int), Cond.methodLink RX1 63 yX1_giveOff, Cond.instanceMethod yX1_giveOff, Cond.selects RX1 yX1_giveOff yX1_giveOff, Cond.code yX1_giveOff cX1_giveOff 7 (some .int), Cond.fieldLink RX1 67 "SeenCools$Yard" "rate" "[I", Cond.fieldLink RX1 70 "SeenCools$Yard" "parts" "[I"]
def wsX7_holeRate : List Cond := .code yX7_holeRate cX7_holeRate 4 (some .int) :: ((wsX7_holeRate_r1 ++ (wsX7_holeRate_r2 ++ wsX7_holeRate_r3)) ++ wsX70 ++ wsX00 ++ wsX60 ++ wsX10 ++ wsX30)
def wsX7_holesOfAll_r1 : List Cond := [Cond.fieldLink RX7 40 "SeenCools" "ahead" "LSeenCools$Ahead;", Cond.fieldLink RX7 33 "SeenCools" "sights" "LSeenCools$Sights;", Cond.fieldLink RX7 51 "SeenCools" "told" "LSeenCools$Yard;", Cond.fieldLink RX7 141 "SeenCools$Yard" "number" "I", Cond.methodLink RX7 252 yX0_allSeenIsSo, Cond.instanceMethod yX0_allSeenIsSo, Cond.selects RX0 yX0_allSeenIsSo yX0_allSeenIsSo, Cond.initialized RX0, Cond.code yX0_allSeenIsSo cX0_allSeenIsSo 4 (some .boolean), Cond.fieldLink RX0 12 "SeenCools$Ahead" "then" "LSeenCools$Present;", Cond.fieldLink RX0 21 "SeenCools$Ahead" "asIf" "LSeenCools$Yard;", Cond.methodLink RX0 68 yX1_begin, Cond.instanceMethod yX1_begin, Cond.selects RX1 yX1_begin yX1_begin, Cond.initialized RX1, Cond.code yX1_begin cX1_begin 3 none, Cond.fieldLink RX1 21 "SeenCools$Present" "hours" "I", Cond.fieldLink RX1 25 "SeenCools$Present" "shutOnes" "I", Cond.fieldLink RX1 28 "SeenCools$Present" "mirrors" "I", Cond.fieldLink RX1 31 "SeenCools$Present" "givenToDark" "I", Cond.fieldLink RX1 34 "SeenCools$Present" "changesKnown" "I", Cond.fieldLink RX1 9 "SeenCools$Present" "warmth" "[I", Cond.fieldLink RX1 37 "SeenCools$Yard" "warmth" "[I", Cond.methodLink RX0 72 yX3_latest]
def wsX7_holesOfAll_r2 : List Cond := [Cond.instanceMethod yX3_latest, Cond.selects RX3 yX3_latest yX3_latest, Cond.initialized RX3, Cond.code yX3_latest cX3_latest 3 (some .int), Cond.fieldLink RX3 21 "SeenCools$Sights" "number" "I", Cond.fieldLink RX3 9 "SeenCools$Sights" "behindHours" "[I", Cond.methodLink RX3 25 Lib.Math.max.name, Cond.static Lib.Math.max.name, Cond.initialized "java/lang/Math", Cond.code Lib.Math.max.name Lib.Math.max.code 2 (some .int), Cond.methodLink RX0 78 yX3_areSo, Cond.instanceMethod yX3_areSo, Cond.selects RX3 yX3_areSo yX3_areSo, Cond.code yX3_areSo cX3_areSo 4 (some .boolean), Cond.fieldLink RX3 31 "SeenCools$Present" "warmth" "[I", Cond.fieldLink RX3 15 "SeenCools$Sights" "which" "[I", Cond.fieldLink RX3 18 "SeenCools$Sights" "warmth" "[I", Cond.methodLink RX0 33 yX1_goBy, Cond.instanceMethod yX1_goBy, Cond.selects RX1 yX1_goBy yX1_goBy, Cond.code yX1_goBy cX1_goBy 5 (some .int), Cond.fieldLink RX1 48 "SeenCools$Yard" "number" "I", Cond.fieldLink RX1 15 "SeenCools$Present" "warmthThen" "[I", Cond.fieldLink RX1 51 "SeenCools$Yard" "hours" "[I"]
def wsX7_holesOfAll_r3 : List Cond := [Cond.fieldLink RX1 57 "SeenCools$Yard" "work" "[I", Cond.fieldLink RX1 60 "SeenCools$Yard" "furnace" "[I", Cond.static yX7_bit, Cond.initialized RX7, Cond.code yX7_bit cX7_bit 2 (some .int), Cond.methodLink RX1 63 yX1_giveOff, Cond.instanceMethod yX1_giveOff, Cond.selects RX1 yX1_giveOff yX1_giveOff, Cond.code yX1_giveOff cX1_giveOff 7 (some .int), Cond.fieldLink RX1 67 "SeenCools$Yard" "rate" "[I", Cond.fieldLink RX1 70 "SeenCools$Yard" "parts" "[I", Cond.methodLink RX7 207 yX7_holeRate, Cond.instanceMethod yX7_holeRate, Cond.selects RX7 yX7_holeRate yX7_holeRate, Cond.code yX7_holeRate cX7_holeRate 4 (some .int), Cond.fieldLink RX7 179 "SeenCools$Ahead" "asIf" "LSeenCools$Yard;", Cond.fieldLink RX7 91 "SeenCools$Yard" "rate" "[I"]
def wsX7_holesOfAll : List Cond := .code yX7_holesOfAll cX7_holesOfAll 3 (some .int) :: ((wsX7_holesOfAll_r1 ++ (wsX7_holesOfAll_r2 ++ wsX7_holesOfAll_r3)) ++ wsX70 ++ wsX60 ++ wsX00 ++ wsX10 ++ wsX30)
def wsX7_holes_r1 : List Cond := [Cond.fieldLink RX7 40 "SeenCools" "ahead" "LSeenCools$Ahead;", Cond.fieldLink RX7 179 "SeenCools$Ahead" "asIf" "LSeenCools$Yard;", Cond.fieldLink RX7 51 "SeenCools" "told" "LSeenCools$Yard;", Cond.methodLink RX7 84 yX7_isWall, Cond.instanceMethod yX7_isWall, Cond.selects RX7 yX7_isWall yX7_isWall, Cond.initialized RX7, Cond.code yX7_isWall cX7_isWall 2 (some .boolean), Cond.fieldLink RX7 141 "SeenCools$Yard" "number" "I", Cond.methodLink RX7 182 yX6_copy, Cond.instanceMethod yX6_copy, Cond.selects RX6 yX6_copy yX6_copy, Cond.initialized RX6, Cond.code yX6_copy cX6_copy 3 none, Cond.fieldLink RX6 36 "SeenCools$Yard" "number" "I", Cond.fieldLink RX6 44 "SeenCools$Yard" "limit" "I", Cond.fieldLink RX6 9 "SeenCools$Yard" "warmth" "[I", Cond.fieldLink RX6 15 "SeenCools$Yard" "rate" "[I", Cond.fieldLink RX6 18 "SeenCools$Yard" "work" "[I", Cond.fieldLink RX6 21 "SeenCools$Yard" "hours" "[I", Cond.fieldLink RX6 27 "SeenCools$Yard" "partsOfAll" "[I", Cond.fieldLink RX6 30 "SeenCools$Yard" "furnace" "[I", Cond.fieldLink RX6 24 "SeenCools$Yard" "parts" "[I", Cond.methodLink RX7 203 yX7_holesOfAll]
def wsX7_holes_r2 : List Cond := [Cond.instanceMethod yX7_holesOfAll, Cond.selects RX7 yX7_holesOfAll yX7_holesOfAll, Cond.code yX7_holesOfAll cX7_holesOfAll 3 (some .int), Cond.fieldLink RX7 33 "SeenCools" "sights" "LSeenCools$Sights;", Cond.methodLink RX7 252 yX0_allSeenIsSo, Cond.instanceMethod yX0_allSeenIsSo, Cond.selects RX0 yX0_allSeenIsSo yX0_allSeenIsSo, Cond.initialized RX0, Cond.code yX0_allSeenIsSo cX0_allSeenIsSo 4 (some .boolean), Cond.fieldLink RX0 12 "SeenCools$Ahead" "then" "LSeenCools$Present;", Cond.fieldLink RX0 21 "SeenCools$Ahead" "asIf" "LSeenCools$Yard;", Cond.methodLink RX0 68 yX1_begin, Cond.instanceMethod yX1_begin, Cond.selects RX1 yX1_begin yX1_begin, Cond.initialized RX1, Cond.code yX1_begin cX1_begin 3 none, Cond.fieldLink RX1 21 "SeenCools$Present" "hours" "I", Cond.fieldLink RX1 25 "SeenCools$Present" "shutOnes" "I", Cond.fieldLink RX1 28 "SeenCools$Present" "mirrors" "I", Cond.fieldLink RX1 31 "SeenCools$Present" "givenToDark" "I", Cond.fieldLink RX1 34 "SeenCools$Present" "changesKnown" "I", Cond.fieldLink RX1 9 "SeenCools$Present" "warmth" "[I", Cond.fieldLink RX1 37 "SeenCools$Yard" "warmth" "[I", Cond.methodLink RX0 72 yX3_latest]
def wsX7_holes_r3 : List Cond := [Cond.instanceMethod yX3_latest, Cond.selects RX3 yX3_latest yX3_latest, Cond.initialized RX3, Cond.code yX3_latest cX3_latest 3 (some .int), Cond.fieldLink RX3 21 "SeenCools$Sights" "number" "I", Cond.fieldLink RX3 9 "SeenCools$Sights" "behindHours" "[I", Cond.methodLink RX3 25 Lib.Math.max.name, Cond.static Lib.Math.max.name, Cond.initialized "java/lang/Math", Cond.code Lib.Math.max.name Lib.Math.max.code 2 (some .int), Cond.methodLink RX0 78 yX3_areSo, Cond.instanceMethod yX3_areSo, Cond.selects RX3 yX3_areSo yX3_areSo, Cond.code yX3_areSo cX3_areSo 4 (some .boolean), Cond.fieldLink RX3 31 "SeenCools$Present" "warmth" "[I", Cond.fieldLink RX3 15 "SeenCools$Sights" "which" "[I", Cond.fieldLink RX3 18 "SeenCools$Sights" "warmth" "[I", Cond.methodLink RX0 33 yX1_goBy, Cond.instanceMethod yX1_goBy, Cond.selects RX1 yX1_goBy yX1_goBy, Cond.code yX1_goBy cX1_goBy 5 (some .int), Cond.fieldLink RX1 48 "SeenCools$Yard" "number" "I", Cond.fieldLink RX1 15 "SeenCools$Present" "warmthThen" "[I", Cond.fieldLink RX1 51 "SeenCools$Yard" "hours" "[I"]
def wsX7_holes_r4 : List Cond := [Cond.fieldLink RX1 57 "SeenCools$Yard" "work" "[I", Cond.fieldLink RX1 60 "SeenCools$Yard" "furnace" "[I", Cond.static yX7_bit, Cond.code yX7_bit cX7_bit 2 (some .int), Cond.methodLink RX1 63 yX1_giveOff, Cond.instanceMethod yX1_giveOff, Cond.selects RX1 yX1_giveOff yX1_giveOff, Cond.code yX1_giveOff cX1_giveOff 7 (some .int), Cond.fieldLink RX1 67 "SeenCools$Yard" "rate" "[I", Cond.fieldLink RX1 70 "SeenCools$Yard" "parts" "[I", Cond.methodLink RX7 207 yX7_holeRate, Cond.instanceMethod yX7_holeRate, Cond.selects RX7 yX7_holeRate yX7_holeRate, Cond.code yX7_holeRate cX7_holeRate 4 (some .int), Cond.fieldLink RX7 91 "SeenCools$Yard" "rate" "[I"]
def wsX7_holes : List Cond := .code yX7_holes cX7_holes 2 (some .int) :: ((wsX7_holes_r1 ++ (wsX7_holes_r2 ++ (wsX7_holes_r3 ++ wsX7_holes_r4))) ++ wsX70 ++ wsX00 ++ wsX60 ++ wsX10 ++ wsX30)
def wsX7_markOfWall : List Cond := .code yX7_markOfWall cX7_markOfWall 2 (some .int) :: ([.fieldLink RX7 237 "SeenCools" "theTrace" "J", .fieldLink RX7 26 "SeenCools" "present" "LSeenCools$Present;", .fieldLink RX7 87 "SeenCools$Present" "warmth" "[I"] ++ wsX70 ++ wsX10)
def wsX7_markOfFin : List Cond := .code yX7_markOfFin cX7_markOfFin 2 (some .int) :: ([.fieldLink RX7 237 "SeenCools" "theTrace" "J", .constantLong RX7 256 (10), .fieldLink RX7 51 "SeenCools" "told" "LSeenCools$Yard;", .fieldLink RX7 91 "SeenCools$Yard" "rate" "[I", .methodLink RX7 210 yX7_markOfWall, .instanceMethod yX7_markOfWall, .selects RX7 yX7_markOfWall yX7_markOfWall, .initialized RX7, .code yX7_markOfWall cX7_markOfWall 2 (some .int), .fieldLink RX7 26 "SeenCools" "present" "LSeenCools$Present;", .fieldLink RX7 87 "SeenCools$Present" "warmth" "[I"] ++ wsX70 ++ wsX60 ++ wsX10)
def wsX7_markOfBrick : List Cond := .code yX7_markOfBrick cX7_markOfBrick 2 (some .int) :: ([.fieldLink RX7 237 "SeenCools" "theTrace" "J", .constantLong RX7 258 (100), .fieldLink RX7 51 "SeenCools" "told" "LSeenCools$Yard;", .methodLink RX7 210 yX7_markOfWall, .instanceMethod yX7_markOfWall, .selects RX7 yX7_markOfWall yX7_markOfWall, .initialized RX7, .code yX7_markOfWall cX7_markOfWall 2 (some .int), .fieldLink RX7 26 "SeenCools" "present" "LSeenCools$Present;", .fieldLink RX7 87 "SeenCools$Present" "warmth" "[I", .methodLink RX7 100 yX6_dark, .instanceMethod yX6_dark, .selects RX6 yX6_dark yX6_dark, .initialized RX6, .code yX6_dark cX6_dark 2 (some .int), .fieldLink RX6 27 "SeenCools$Yard" "partsOfAll" "[I"] ++ wsX70 ++ wsX10 ++ wsX60)
def wsX7_markOfFurnace : List Cond := .code yX7_markOfFurnace cX7_markOfFurnace 2 (some .int) :: ([.fieldLink RX7 237 "SeenCools" "theTrace" "J", .constantLong RX7 260 (1000), .methodLink RX7 213 yX7_markOfFin, .instanceMethod yX7_markOfFin, .selects RX7 yX7_markOfFin yX7_markOfFin, .initialized RX7, .code yX7_markOfFin cX7_markOfFin 2 (some .int), .constantLong RX7 256 (10), .fieldLink RX7 51 "SeenCools" "told" "LSeenCools$Yard;", .fieldLink RX7 91 "SeenCools$Yard" "rate" "[I", .methodLink RX7 210 yX7_markOfWall, .instanceMethod yX7_markOfWall, .selects RX7 yX7_markOfWall yX7_markOfWall, .code yX7_markOfWall cX7_markOfWall 2 (some .int), .fieldLink RX7 26 "SeenCools" "present" "LSeenCools$Present;", .fieldLink RX7 87 "SeenCools$Present" "warmth" "[I"] ++ wsX70 ++ wsX60 ++ wsX10)
def wsX7_markOfWindow : List Cond := .code yX7_markOfWindow cX7_markOfWindow 2 (some .int) :: ([.fieldLink RX7 237 "SeenCools" "theTrace" "J", .constantLong RX7 262 (10000), .methodLink RX7 216 yX7_markOfBrick, .instanceMethod yX7_markOfBrick, .selects RX7 yX7_markOfBrick yX7_markOfBrick, .initialized RX7, .code yX7_markOfBrick cX7_markOfBrick 2 (some .int), .constantLong RX7 258 (100), .fieldLink RX7 51 "SeenCools" "told" "LSeenCools$Yard;", .methodLink RX7 210 yX7_markOfWall, .instanceMethod yX7_markOfWall, .selects RX7 yX7_markOfWall yX7_markOfWall, .code yX7_markOfWall cX7_markOfWall 2 (some .int), .fieldLink RX7 26 "SeenCools" "present" "LSeenCools$Present;", .fieldLink RX7 87 "SeenCools$Present" "warmth" "[I", .methodLink RX7 100 yX6_dark, .instanceMethod yX6_dark, .selects RX6 yX6_dark yX6_dark, .initialized RX6, .code yX6_dark cX6_dark 2 (some .int), .fieldLink RX6 27 "SeenCools$Yard" "partsOfAll" "[I"] ++ wsX70 ++ wsX10 ++ wsX60)
def wsX7_markOfHull : List Cond := .code yX7_markOfHull cX7_markOfHull 2 (some .int) :: ([.fieldLink RX7 237 "SeenCools" "theTrace" "J", .constantLong RX7 264 (100000), .fieldLink RX7 26 "SeenCools" "present" "LSeenCools$Present;", .fieldLink RX7 117 "SeenCools$Present" "hours" "I", .methodLink RX7 210 yX7_markOfWall, .instanceMethod yX7_markOfWall, .selects RX7 yX7_markOfWall yX7_markOfWall, .initialized RX7, .code yX7_markOfWall cX7_markOfWall 2 (some .int), .fieldLink RX7 87 "SeenCools$Present" "warmth" "[I"] ++ wsX70 ++ wsX10)
def wsX7_mark_r1 : List Cond := [Cond.constant RX7 192 (-1000000), Cond.methodLink RX7 84 yX7_isWall, Cond.instanceMethod yX7_isWall, Cond.selects RX7 yX7_isWall yX7_isWall, Cond.initialized RX7, Cond.code yX7_isWall cX7_isWall 2 (some .boolean), Cond.fieldLink RX7 51 "SeenCools" "told" "LSeenCools$Yard;", Cond.fieldLink RX7 141 "SeenCools$Yard" "number" "I", Cond.methodLink RX7 210 yX7_markOfWall, Cond.instanceMethod yX7_markOfWall, Cond.selects RX7 yX7_markOfWall yX7_markOfWall, Cond.code yX7_markOfWall cX7_markOfWall 2 (some .int), Cond.fieldLink RX7 237 "SeenCools" "theTrace" "J", Cond.fieldLink RX7 26 "SeenCools" "present" "LSeenCools$Present;", Cond.fieldLink RX7 87 "SeenCools$Present" "warmth" "[I", Cond.methodLink RX7 213 yX7_markOfFin, Cond.instanceMethod yX7_markOfFin, Cond.selects RX7 yX7_markOfFin yX7_markOfFin, Cond.code yX7_markOfFin cX7_markOfFin 2 (some .int), Cond.constantLong RX7 256 (10), Cond.fieldLink RX7 91 "SeenCools$Yard" "rate" "[I", Cond.methodLink RX7 216 yX7_markOfBrick, Cond.instanceMethod yX7_markOfBrick, Cond.selects RX7 yX7_markOfBrick yX7_markOfBrick]
def wsX7_mark_r2 : List Cond := [Cond.code yX7_markOfBrick cX7_markOfBrick 2 (some .int), Cond.constantLong RX7 258 (100), Cond.methodLink RX7 100 yX6_dark, Cond.instanceMethod yX6_dark, Cond.selects RX6 yX6_dark yX6_dark, Cond.initialized RX6, Cond.code yX6_dark cX6_dark 2 (some .int), Cond.fieldLink RX6 27 "SeenCools$Yard" "partsOfAll" "[I", Cond.methodLink RX7 219 yX7_markOfFurnace, Cond.instanceMethod yX7_markOfFurnace, Cond.selects RX7 yX7_markOfFurnace yX7_markOfFurnace, Cond.code yX7_markOfFurnace cX7_markOfFurnace 2 (some .int), Cond.constantLong RX7 260 (1000), Cond.methodLink RX7 222 yX7_markOfWindow, Cond.instanceMethod yX7_markOfWindow, Cond.selects RX7 yX7_markOfWindow yX7_markOfWindow, Cond.code yX7_markOfWindow cX7_markOfWindow 2 (some .int), Cond.constantLong RX7 262 (10000), Cond.methodLink RX7 225 yX7_markOfHull, Cond.instanceMethod yX7_markOfHull, Cond.selects RX7 yX7_markOfHull yX7_markOfHull, Cond.code yX7_markOfHull cX7_markOfHull 2 (some .int), Cond.constantLong RX7 264 (100000), Cond.fieldLink RX7 117 "SeenCools$Present" "hours" "I"]
def wsX7_mark : List Cond := .code yX7_mark cX7_mark 3 (some .int) :: ((wsX7_mark_r1 ++ wsX7_mark_r2) ++ wsX70 ++ wsX60 ++ wsX10)
def wsX7_isImage : List Cond := .code yX7_isImage cX7_isImage 1 (some .boolean) :: ([])
def wsX7_keep : List Cond := .code yX7_keep cX7_keep 2 (some .int) :: ([.fieldLink RX7 44 "SeenCools" "images" "[LSeenCools$Present;", .fieldLink RX7 26 "SeenCools" "present" "LSeenCools$Present;", .fieldLink RX7 81 "SeenCools" "imagesKept" "I", .fieldLink RX7 117 "SeenCools$Present" "hours" "I", .methodLink RX7 228 yX7_isImage, .static yX7_isImage, .initialized RX7, .code yX7_isImage cX7_isImage 1 (some .boolean), .methodLink RX7 231 yX1_copyWithChanges, .instanceMethod yX1_copyWithChanges, .selects RX1 yX1_copyWithChanges yX1_copyWithChanges, .initialized RX1, .code yX1_copyWithChanges cX1_copyWithChanges 3 none, .fieldLink RX1 34 "SeenCools$Present" "changesKnown" "I", .fieldLink RX1 18 "SeenCools$Present" "changes" "[I", .methodLink RX1 40 yX1_copy, .instanceMethod yX1_copy, .selects RX1 yX1_copy yX1_copy, .code yX1_copy cX1_copy 3 none, .fieldLink RX1 21 "SeenCools$Present" "hours" "I", .fieldLink RX1 25 "SeenCools$Present" "shutOnes" "I", .fieldLink RX1 28 "SeenCools$Present" "mirrors" "I", .fieldLink RX1 31 "SeenCools$Present" "givenToDark" "I", .fieldLink RX1 9 "SeenCools$Present" "warmth" "[I"] ++ wsX70 ++ wsX10)
def wsX7_back_r1 : List Cond := [Cond.fieldLink RX7 81 "SeenCools" "imagesKept" "I", Cond.fieldLink RX7 26 "SeenCools" "present" "LSeenCools$Present;", Cond.fieldLink RX7 44 "SeenCools" "images" "[LSeenCools$Present;", Cond.fieldLink RX7 117 "SeenCools$Present" "hours" "I", Cond.methodLink RX7 228 yX7_isImage, Cond.static yX7_isImage, Cond.initialized RX7, Cond.code yX7_isImage cX7_isImage 1 (some .boolean), Cond.methodLink RX7 107 yX7_bit, Cond.static yX7_bit, Cond.code yX7_bit cX7_bit 2 (some .int), Cond.methodLink RX7 231 yX1_copyWithChanges, Cond.instanceMethod yX1_copyWithChanges, Cond.selects RX1 yX1_copyWithChanges yX1_copyWithChanges, Cond.initialized RX1, Cond.code yX1_copyWithChanges cX1_copyWithChanges 3 none, Cond.fieldLink RX1 34 "SeenCools$Present" "changesKnown" "I", Cond.fieldLink RX1 18 "SeenCools$Present" "changes" "[I", Cond.methodLink RX1 40 yX1_copy, Cond.instanceMethod yX1_copy, Cond.selects RX1 yX1_copy yX1_copy, Cond.code yX1_copy cX1_copy 3 none, Cond.fieldLink RX1 21 "SeenCools$Present" "hours" "I", Cond.fieldLink RX1 25 "SeenCools$Present" "shutOnes" "I"]
def wsX7_back_r2 : List Cond := [Cond.fieldLink RX1 28 "SeenCools$Present" "mirrors" "I", Cond.fieldLink RX1 31 "SeenCools$Present" "givenToDark" "I", Cond.fieldLink RX1 9 "SeenCools$Present" "warmth" "[I"]
def wsX7_back : List Cond := .code yX7_back cX7_back 2 (some .int) :: ((wsX7_back_r1 ++ wsX7_back_r2) ++ wsX70 ++ wsX10)
def wsX7_count : List Cond := .code yX7_count cX7_count 2 (some .int) :: ([.fieldLink RX7 51 "SeenCools" "told" "LSeenCools$Yard;", .fieldLink RX7 141 "SeenCools$Yard" "number" "I", .fieldLink RX7 234 "SeenCools$Yard" "limit" "I", .fieldLink RX7 26 "SeenCools" "present" "LSeenCools$Present;", .fieldLink RX7 104 "SeenCools$Present" "shutOnes" "I", .fieldLink RX7 111 "SeenCools$Present" "mirrors" "I", .fieldLink RX7 33 "SeenCools" "sights" "LSeenCools$Sights;", .fieldLink RX7 78 "SeenCools$Sights" "number" "I", .fieldLink RX7 135 "SeenCools$Present" "changesKnown" "I", .fieldLink RX7 12 "SeenCools" "text" "LSeenCools$Text;", .fieldLink RX7 66 "SeenCools$Text" "length" "I", .methodLink RX7 130 yJ6_bitCount_0f7a4, .static yJ6_bitCount_0f7a4, .initialized RJ6, .code yJ6_bitCount_0f7a4 cJ6_bitCount_0f7a4 1 (some .int), .constant RJ6 265 (1431655765), .constant RJ6 266 (858993459), .constant RJ6 267 (252645135)] ++ wsX70 ++ wsX60 ++ wsX10 ++ wsX30 ++ wsX40)
def wsX7_trace : List Cond := .code yX7_trace cX7_trace 1 (some .long) :: ([.fieldLink RX7 237 "SeenCools" "theTrace" "J"] ++ wsX70)
def wsX8_in : List Cond := .code yX8_in cX8_in 6 (some .boolean) :: ([])
def wsX8_init : List Cond := .code yX8_init cX8_init 1 none :: ([.methodLink RX8 1 objectInit, .instanceMethod objectInit, .code objectInit ⟨#[0xb1]⟩ 1 none, .arrayClass .int, .fieldLink RX8 7 "SeenCoolsModel" "text" "[I", .fieldLink RX8 13 "SeenCoolsModel" "readOf" "[I", .fieldLink RX8 16 "SeenCoolsModel" "readParts" "[I", .fieldLink RX8 19 "SeenCoolsModel" "first" "[I", .fieldLink RX8 22 "SeenCoolsModel" "rates" "[I", .fieldLink RX8 25 "SeenCoolsModel" "works" "[I", .fieldLink RX8 28 "SeenCoolsModel" "hours" "[I", .fieldLink RX8 31 "SeenCoolsModel" "parts" "[I", .fieldLink RX8 34 "SeenCoolsModel" "warm" "[I", .fieldLink RX8 37 "SeenCoolsModel" "then" "[I", .fieldLink RX8 40 "SeenCoolsModel" "undone" "[I", .fieldLink RX8 43 "SeenCoolsModel" "row" "[I", .fieldLink RX8 46 "SeenCoolsModel" "ahead" "[I", .fieldLink RX8 49 "SeenCoolsModel" "sawWhen" "[I", .fieldLink RX8 52 "SeenCoolsModel" "sawWall" "[I", .fieldLink RX8 55 "SeenCoolsModel" "sawWarm" "[I", .fieldLink RX8 58 "SeenCoolsModel" "kept" "[I", .fieldLink RX8 61 "SeenCoolsModel" "limit" "I"] ++ wsX80)
def wsX8_type : List Cond := .code yX8_type cX8_type 5 (some .int) :: ([.constantLong RX8 65 (8), .fieldLink RX8 71 "SeenCoolsModel" "size" "I", .fieldLink RX8 7 "SeenCoolsModel" "text" "[I", .constantLong RX8 74 (255), .methodLink RX8 67 yX8_in, .static yX8_in, .initialized RX8, .code yX8_in cX8_in 6 (some .boolean)] ++ wsX80)
def wsX8_clear : List Cond := .code yX8_clear cX8_clear 2 (some .int) :: ([.fieldLink RX8 71 "SeenCoolsModel" "size" "I"] ++ wsX80)
def wsX8_isLetter : List Cond := .code yX8_isLetter cX8_isLetter 1 (some .boolean) :: ([.constantLong RX8 76 (97), .constantLong RX8 78 (122), .methodLink RX8 67 yX8_in, .static yX8_in, .initialized RX8, .code yX8_in cX8_in 6 (some .boolean)])
def wsX8_isFigure : List Cond := .code yX8_isFigure cX8_isFigure 1 (some .boolean) :: ([.constantLong RX8 80 (48), .constantLong RX8 82 (57), .methodLink RX8 67 yX8_in, .static yX8_in, .initialized RX8, .code yX8_in cX8_in 6 (some .boolean)])
def wsX8_readWord : List Cond := .code yX8_readWord cX8_readWord 3 none :: ([.fieldLink RX8 84 "SeenCoolsModel" "at" "I", .fieldLink RX8 71 "SeenCoolsModel" "size" "I", .fieldLink RX8 7 "SeenCoolsModel" "text" "[I", .fieldLink RX8 91 "SeenCoolsModel" "begin" "I", .constantLong RX8 94 (-1), .constantLong RX8 96 (256), .constantLong RX8 98 (2002873452), .constantLong RX8 100 (1936024947), .constantLong RX8 102 (2003792491), .constantLong RX8 104 (465625246068), .fieldLink RX8 106 "SeenCoolsModel" "told" "I", .fieldLink RX8 109 "SeenCoolsModel" "token" "I", .methodLink RX8 87 yX8_isLetter, .static yX8_isLetter, .initialized RX8, .code yX8_isLetter cX8_isLetter 1 (some .boolean), .constantLong RX8 76 (97), .constantLong RX8 78 (122), .methodLink RX8 67 yX8_in, .static yX8_in, .code yX8_in cX8_in 6 (some .boolean)] ++ wsX80)
def wsX8_readNumber : List Cond := .code yX8_readNumber cX8_readNumber 2 none :: ([.fieldLink RX8 84 "SeenCoolsModel" "at" "I", .fieldLink RX8 71 "SeenCoolsModel" "size" "I", .fieldLink RX8 7 "SeenCoolsModel" "text" "[I", .fieldLink RX8 91 "SeenCoolsModel" "begin" "I", .fieldLink RX8 109 "SeenCoolsModel" "token" "I", .fieldLink RX8 106 "SeenCoolsModel" "told" "I", .methodLink RX8 112 yX8_isFigure, .static yX8_isFigure, .initialized RX8, .code yX8_isFigure cX8_isFigure 1 (some .boolean), .constantLong RX8 80 (48), .constantLong RX8 82 (57), .methodLink RX8 67 yX8_in, .static yX8_in, .code yX8_in cX8_in 6 (some .boolean)] ++ wsX80)
def wsX8_reads_r1 : List Cond := [Cond.fieldLink RX8 84 "SeenCoolsModel" "at" "I", Cond.fieldLink RX8 71 "SeenCoolsModel" "size" "I", Cond.fieldLink RX8 7 "SeenCoolsModel" "text" "[I", Cond.fieldLink RX8 91 "SeenCoolsModel" "begin" "I", Cond.fieldLink RX8 109 "SeenCoolsModel" "token" "I", Cond.methodLink RX8 87 yX8_isLetter, Cond.static yX8_isLetter, Cond.initialized RX8, Cond.code yX8_isLetter cX8_isLetter 1 (some .boolean), Cond.constantLong RX8 76 (97), Cond.constantLong RX8 78 (122), Cond.methodLink RX8 67 yX8_in, Cond.static yX8_in, Cond.code yX8_in cX8_in 6 (some .boolean), Cond.methodLink RX8 115 yX8_readWord, Cond.instanceMethod yX8_readWord, Cond.selects RX8 yX8_readWord yX8_readWord, Cond.code yX8_readWord cX8_readWord 3 none, Cond.constantLong RX8 94 (-1), Cond.constantLong RX8 96 (256), Cond.constantLong RX8 98 (2002873452), Cond.constantLong RX8 100 (1936024947), Cond.constantLong RX8 102 (2003792491), Cond.constantLong RX8 104 (465625246068)]
def wsX8_reads_r2 : List Cond := [Cond.fieldLink RX8 106 "SeenCoolsModel" "told" "I", Cond.methodLink RX8 112 yX8_isFigure, Cond.static yX8_isFigure, Cond.code yX8_isFigure cX8_isFigure 1 (some .boolean), Cond.constantLong RX8 80 (48), Cond.constantLong RX8 82 (57), Cond.methodLink RX8 118 yX8_readNumber, Cond.instanceMethod yX8_readNumber, Cond.selects RX8 yX8_readNumber yX8_readNumber, Cond.code yX8_readNumber cX8_readNumber 2 none]
def wsX8_reads : List Cond := .code yX8_reads cX8_reads 1 none :: ((wsX8_reads_r1 ++ wsX8_reads_r2) ++ wsX80)
def wsX8_number_r1 : List Cond := [Cond.fieldLink RX8 109 "SeenCoolsModel" "token" "I", Cond.fieldLink RX8 106 "SeenCoolsModel" "told" "I", Cond.methodLink RX8 121 yX8_reads, Cond.instanceMethod yX8_reads, Cond.selects RX8 yX8_reads yX8_reads, Cond.initialized RX8, Cond.code yX8_reads cX8_reads 1 none, Cond.fieldLink RX8 84 "SeenCoolsModel" "at" "I", Cond.fieldLink RX8 71 "SeenCoolsModel" "size" "I", Cond.fieldLink RX8 7 "SeenCoolsModel" "text" "[I", Cond.fieldLink RX8 91 "SeenCoolsModel" "begin" "I", Cond.methodLink RX8 87 yX8_isLetter, Cond.static yX8_isLetter, Cond.code yX8_isLetter cX8_isLetter 1 (some .boolean), Cond.constantLong RX8 76 (97), Cond.constantLong RX8 78 (122), Cond.methodLink RX8 67 yX8_in, Cond.static yX8_in, Cond.code yX8_in cX8_in 6 (some .boolean), Cond.methodLink RX8 115 yX8_readWord, Cond.instanceMethod yX8_readWord, Cond.selects RX8 yX8_readWord yX8_readWord, Cond.code yX8_readWord cX8_readWord 3 none, Cond.constantLong RX8 94 (-1)]
def wsX8_number_r2 : List Cond := [Cond.constantLong RX8 96 (256), Cond.constantLong RX8 98 (2002873452), Cond.constantLong RX8 100 (1936024947), Cond.constantLong RX8 102 (2003792491), Cond.constantLong RX8 104 (465625246068), Cond.methodLink RX8 112 yX8_isFigure, Cond.static yX8_isFigure, Cond.code yX8_isFigure cX8_isFigure 1 (some .boolean), Cond.constantLong RX8 80 (48), Cond.constantLong RX8 82 (57), Cond.methodLink RX8 118 yX8_readNumber, Cond.instanceMethod yX8_readNumber, Cond.selects RX8 yX8_readNumber yX8_readNumber, Cond.code yX8_readNumber cX8_readNumber 2 none]
def wsX8_number : List Cond := .code yX8_number cX8_number 3 (some .int) :: ((wsX8_number_r1 ++ wsX8_number_r2) ++ wsX80)
def wsX8_seen : List Cond := .code yX8_seen cX8_seen 5 (some .int) :: ([])
def wsX8_readWall_r1 : List Cond := [Cond.fieldLink RX8 13 "SeenCoolsModel" "readOf" "[I", Cond.fieldLink RX8 128 "SeenCoolsModel" "readWalls" "I", Cond.methodLink RX8 124 yX8_number, Cond.instanceMethod yX8_number, Cond.selects RX8 yX8_number yX8_number, Cond.initialized RX8, Cond.code yX8_number cX8_number 3 (some .int), Cond.fieldLink RX8 109 "SeenCoolsModel" "token" "I", Cond.fieldLink RX8 106 "SeenCoolsModel" "told" "I", Cond.methodLink RX8 121 yX8_reads, Cond.instanceMethod yX8_reads, Cond.selects RX8 yX8_reads yX8_reads, Cond.code yX8_reads cX8_reads 1 none, Cond.fieldLink RX8 84 "SeenCoolsModel" "at" "I", Cond.fieldLink RX8 71 "SeenCoolsModel" "size" "I", Cond.fieldLink RX8 7 "SeenCoolsModel" "text" "[I", Cond.fieldLink RX8 91 "SeenCoolsModel" "begin" "I", Cond.methodLink RX8 87 yX8_isLetter, Cond.static yX8_isLetter, Cond.code yX8_isLetter cX8_isLetter 1 (some .boolean), Cond.constantLong RX8 76 (97), Cond.constantLong RX8 78 (122), Cond.methodLink RX8 67 yX8_in, Cond.static yX8_in]
def wsX8_readWall_r2 : List Cond := [Cond.code yX8_in cX8_in 6 (some .boolean), Cond.methodLink RX8 115 yX8_readWord, Cond.instanceMethod yX8_readWord, Cond.selects RX8 yX8_readWord yX8_readWord, Cond.code yX8_readWord cX8_readWord 3 none, Cond.constantLong RX8 94 (-1), Cond.constantLong RX8 96 (256), Cond.constantLong RX8 98 (2002873452), Cond.constantLong RX8 100 (1936024947), Cond.constantLong RX8 102 (2003792491), Cond.constantLong RX8 104 (465625246068), Cond.methodLink RX8 112 yX8_isFigure, Cond.static yX8_isFigure, Cond.code yX8_isFigure cX8_isFigure 1 (some .boolean), Cond.constantLong RX8 80 (48), Cond.constantLong RX8 82 (57), Cond.methodLink RX8 118 yX8_readNumber, Cond.instanceMethod yX8_readNumber, Cond.selects RX8 yX8_readNumber yX8_readNumber, Cond.code yX8_readNumber cX8_readNumber 2 none]
def wsX8_readWall : List Cond := .code yX8_readWall cX8_readWall 3 (some .boolean) :: ((wsX8_readWall_r1 ++ wsX8_readWall_r2) ++ wsX80)
def wsX8_readSees_r1 : List Cond := [Cond.fieldLink RX8 128 "SeenCoolsModel" "readWalls" "I", Cond.fieldLink RX8 16 "SeenCoolsModel" "readParts" "[I", Cond.methodLink RX8 124 yX8_number, Cond.instanceMethod yX8_number, Cond.selects RX8 yX8_number yX8_number, Cond.initialized RX8, Cond.code yX8_number cX8_number 3 (some .int), Cond.fieldLink RX8 109 "SeenCoolsModel" "token" "I", Cond.fieldLink RX8 106 "SeenCoolsModel" "told" "I", Cond.methodLink RX8 121 yX8_reads, Cond.instanceMethod yX8_reads, Cond.selects RX8 yX8_reads yX8_reads, Cond.code yX8_reads cX8_reads 1 none, Cond.fieldLink RX8 84 "SeenCoolsModel" "at" "I", Cond.fieldLink RX8 71 "SeenCoolsModel" "size" "I", Cond.fieldLink RX8 7 "SeenCoolsModel" "text" "[I", Cond.fieldLink RX8 91 "SeenCoolsModel" "begin" "I", Cond.methodLink RX8 87 yX8_isLetter, Cond.static yX8_isLetter, Cond.code yX8_isLetter cX8_isLetter 1 (some .boolean), Cond.constantLong RX8 76 (97), Cond.constantLong RX8 78 (122), Cond.methodLink RX8 67 yX8_in, Cond.static yX8_in]
def wsX8_readSees_r2 : List Cond := [Cond.code yX8_in cX8_in 6 (some .boolean), Cond.methodLink RX8 115 yX8_readWord, Cond.instanceMethod yX8_readWord, Cond.selects RX8 yX8_readWord yX8_readWord, Cond.code yX8_readWord cX8_readWord 3 none, Cond.constantLong RX8 94 (-1), Cond.constantLong RX8 96 (256), Cond.constantLong RX8 98 (2002873452), Cond.constantLong RX8 100 (1936024947), Cond.constantLong RX8 102 (2003792491), Cond.constantLong RX8 104 (465625246068), Cond.methodLink RX8 112 yX8_isFigure, Cond.static yX8_isFigure, Cond.code yX8_isFigure cX8_isFigure 1 (some .boolean), Cond.constantLong RX8 80 (48), Cond.constantLong RX8 82 (57), Cond.methodLink RX8 118 yX8_readNumber, Cond.instanceMethod yX8_readNumber, Cond.selects RX8 yX8_readNumber yX8_readNumber, Cond.code yX8_readNumber cX8_readNumber 2 none, Cond.methodLink RX8 131 yX8_seen, Cond.instanceMethod yX8_seen, Cond.selects RX8 yX8_seen yX8_seen, Cond.code yX8_seen cX8_seen 5 (some .int)]
def wsX8_readSees : List Cond := .code yX8_readSees cX8_readSees 5 (some .boolean) :: ((wsX8_readSees_r1 ++ wsX8_readSees_r2) ++ wsX80)
def wsX8_readWork_r1 : List Cond := [Cond.fieldLink RX8 128 "SeenCoolsModel" "readWalls" "I", Cond.fieldLink RX8 13 "SeenCoolsModel" "readOf" "[I", Cond.methodLink RX8 124 yX8_number, Cond.instanceMethod yX8_number, Cond.selects RX8 yX8_number yX8_number, Cond.initialized RX8, Cond.code yX8_number cX8_number 3 (some .int), Cond.fieldLink RX8 109 "SeenCoolsModel" "token" "I", Cond.fieldLink RX8 106 "SeenCoolsModel" "told" "I", Cond.methodLink RX8 121 yX8_reads, Cond.instanceMethod yX8_reads, Cond.selects RX8 yX8_reads yX8_reads, Cond.code yX8_reads cX8_reads 1 none, Cond.fieldLink RX8 84 "SeenCoolsModel" "at" "I", Cond.fieldLink RX8 71 "SeenCoolsModel" "size" "I", Cond.fieldLink RX8 7 "SeenCoolsModel" "text" "[I", Cond.fieldLink RX8 91 "SeenCoolsModel" "begin" "I", Cond.methodLink RX8 87 yX8_isLetter, Cond.static yX8_isLetter, Cond.code yX8_isLetter cX8_isLetter 1 (some .boolean), Cond.constantLong RX8 76 (97), Cond.constantLong RX8 78 (122), Cond.methodLink RX8 67 yX8_in, Cond.static yX8_in]
def wsX8_readWork_r2 : List Cond := [Cond.code yX8_in cX8_in 6 (some .boolean), Cond.methodLink RX8 115 yX8_readWord, Cond.instanceMethod yX8_readWord, Cond.selects RX8 yX8_readWord yX8_readWord, Cond.code yX8_readWord cX8_readWord 3 none, Cond.constantLong RX8 94 (-1), Cond.constantLong RX8 96 (256), Cond.constantLong RX8 98 (2002873452), Cond.constantLong RX8 100 (1936024947), Cond.constantLong RX8 102 (2003792491), Cond.constantLong RX8 104 (465625246068), Cond.methodLink RX8 112 yX8_isFigure, Cond.static yX8_isFigure, Cond.code yX8_isFigure cX8_isFigure 1 (some .boolean), Cond.constantLong RX8 80 (48), Cond.constantLong RX8 82 (57), Cond.methodLink RX8 118 yX8_readNumber, Cond.instanceMethod yX8_readNumber, Cond.selects RX8 yX8_readNumber yX8_readNumber, Cond.code yX8_readNumber cX8_readNumber 2 none]
def wsX8_readWork : List Cond := .code yX8_readWork cX8_readWork 5 (some .boolean) :: ((wsX8_readWork_r1 ++ wsX8_readWork_r2) ++ wsX80)
def wsX8_readItem_r1 : List Cond := [Cond.fieldLink RX8 106 "SeenCoolsModel" "told" "I", Cond.fieldLink RX8 109 "SeenCoolsModel" "token" "I", Cond.fieldLink RX8 128 "SeenCoolsModel" "readWalls" "I", Cond.fieldLink RX8 135 "SeenCoolsModel" "readLimit" "I", Cond.methodLink RX8 138 yX8_readWall, Cond.instanceMethod yX8_readWall, Cond.selects RX8 yX8_readWall yX8_readWall, Cond.initialized RX8, Cond.code yX8_readWall cX8_readWall 3 (some .boolean), Cond.fieldLink RX8 13 "SeenCoolsModel" "readOf" "[I", Cond.methodLink RX8 124 yX8_number, Cond.instanceMethod yX8_number, Cond.selects RX8 yX8_number yX8_number, Cond.code yX8_number cX8_number 3 (some .int), Cond.methodLink RX8 121 yX8_reads, Cond.instanceMethod yX8_reads, Cond.selects RX8 yX8_reads yX8_reads, Cond.code yX8_reads cX8_reads 1 none, Cond.fieldLink RX8 84 "SeenCoolsModel" "at" "I", Cond.fieldLink RX8 71 "SeenCoolsModel" "size" "I", Cond.fieldLink RX8 7 "SeenCoolsModel" "text" "[I", Cond.fieldLink RX8 91 "SeenCoolsModel" "begin" "I", Cond.methodLink RX8 87 yX8_isLetter, Cond.static yX8_isLetter]
def wsX8_readItem_r2 : List Cond := [Cond.code yX8_isLetter cX8_isLetter 1 (some .boolean), Cond.constantLong RX8 76 (97), Cond.constantLong RX8 78 (122), Cond.methodLink RX8 67 yX8_in, Cond.static yX8_in, Cond.code yX8_in cX8_in 6 (some .boolean), Cond.methodLink RX8 115 yX8_readWord, Cond.instanceMethod yX8_readWord, Cond.selects RX8 yX8_readWord yX8_readWord, Cond.code yX8_readWord cX8_readWord 3 none, Cond.constantLong RX8 94 (-1), Cond.constantLong RX8 96 (256), Cond.constantLong RX8 98 (2002873452), Cond.constantLong RX8 100 (1936024947), Cond.constantLong RX8 102 (2003792491), Cond.constantLong RX8 104 (465625246068), Cond.methodLink RX8 112 yX8_isFigure, Cond.static yX8_isFigure, Cond.code yX8_isFigure cX8_isFigure 1 (some .boolean), Cond.constantLong RX8 80 (48), Cond.constantLong RX8 82 (57), Cond.methodLink RX8 118 yX8_readNumber, Cond.instanceMethod yX8_readNumber, Cond.selects RX8 yX8_readNumber yX8_readNumber]
def wsX8_readItem_r3 : List Cond := [Cond.code yX8_readNumber cX8_readNumber 2 none, Cond.methodLink RX8 142 yX8_readSees, Cond.instanceMethod yX8_readSees, Cond.selects RX8 yX8_readSees yX8_readSees, Cond.code yX8_readSees cX8_readSees 5 (some .boolean), Cond.fieldLink RX8 16 "SeenCoolsModel" "readParts" "[I", Cond.methodLink RX8 131 yX8_seen, Cond.instanceMethod yX8_seen, Cond.selects RX8 yX8_seen yX8_seen, Cond.code yX8_seen cX8_seen 5 (some .int), Cond.methodLink RX8 145 yX8_readWork, Cond.instanceMethod yX8_readWork, Cond.selects RX8 yX8_readWork yX8_readWork, Cond.code yX8_readWork cX8_readWork 5 (some .boolean)]
def wsX8_readItem : List Cond := .code yX8_readItem cX8_readItem 3 (some .boolean) :: ((wsX8_readItem_r1 ++ (wsX8_readItem_r2 ++ wsX8_readItem_r3)) ++ wsX80)
def wsX8_takes : List Cond := .code yX8_takes cX8_takes 2 none :: ([.fieldLink RX8 128 "SeenCoolsModel" "readWalls" "I", .fieldLink RX8 154 "SeenCoolsModel" "walls" "I", .fieldLink RX8 135 "SeenCoolsModel" "readLimit" "I", .fieldLink RX8 61 "SeenCoolsModel" "limit" "I", .fieldLink RX8 19 "SeenCoolsModel" "first" "[I", .fieldLink RX8 13 "SeenCoolsModel" "readOf" "[I", .fieldLink RX8 22 "SeenCoolsModel" "rates" "[I", .fieldLink RX8 25 "SeenCoolsModel" "works" "[I", .fieldLink RX8 28 "SeenCoolsModel" "hours" "[I", .fieldLink RX8 34 "SeenCoolsModel" "warm" "[I", .fieldLink RX8 31 "SeenCoolsModel" "parts" "[I", .fieldLink RX8 16 "SeenCoolsModel" "readParts" "[I", .fieldLink RX8 157 "SeenCoolsModel" "hour" "I", .fieldLink RX8 160 "SeenCoolsModel" "shut" "I", .fieldLink RX8 163 "SeenCoolsModel" "mirrors" "I", .fieldLink RX8 166 "SeenCoolsModel" "given" "I", .fieldLink RX8 169 "SeenCoolsModel" "undos" "I", .fieldLink RX8 172 "SeenCoolsModel" "saws" "I", .fieldLink RX8 58 "SeenCoolsModel" "kept" "[I"] ++ wsX80)
def wsX8_walls_r1 : List Cond := [Cond.fieldLink RX8 84 "SeenCoolsModel" "at" "I", Cond.fieldLink RX8 128 "SeenCoolsModel" "readWalls" "I", Cond.fieldLink RX8 135 "SeenCoolsModel" "readLimit" "I", Cond.fieldLink RX8 16 "SeenCoolsModel" "readParts" "[I", Cond.fieldLink RX8 109 "SeenCoolsModel" "token" "I", Cond.fieldLink RX8 91 "SeenCoolsModel" "begin" "I", Cond.fieldLink RX8 71 "SeenCoolsModel" "size" "I", Cond.methodLink RX8 121 yX8_reads, Cond.instanceMethod yX8_reads, Cond.selects RX8 yX8_reads yX8_reads, Cond.initialized RX8, Cond.code yX8_reads cX8_reads 1 none, Cond.fieldLink RX8 7 "SeenCoolsModel" "text" "[I", Cond.methodLink RX8 87 yX8_isLetter, Cond.static yX8_isLetter, Cond.code yX8_isLetter cX8_isLetter 1 (some .boolean), Cond.constantLong RX8 76 (97), Cond.constantLong RX8 78 (122), Cond.methodLink RX8 67 yX8_in, Cond.static yX8_in, Cond.code yX8_in cX8_in 6 (some .boolean), Cond.methodLink RX8 115 yX8_readWord, Cond.instanceMethod yX8_readWord, Cond.selects RX8 yX8_readWord yX8_readWord]
def wsX8_walls_r2 : List Cond := [Cond.code yX8_readWord cX8_readWord 3 none, Cond.constantLong RX8 94 (-1), Cond.constantLong RX8 96 (256), Cond.constantLong RX8 98 (2002873452), Cond.constantLong RX8 100 (1936024947), Cond.constantLong RX8 102 (2003792491), Cond.constantLong RX8 104 (465625246068), Cond.fieldLink RX8 106 "SeenCoolsModel" "told" "I", Cond.methodLink RX8 112 yX8_isFigure, Cond.static yX8_isFigure, Cond.code yX8_isFigure cX8_isFigure 1 (some .boolean), Cond.constantLong RX8 80 (48), Cond.constantLong RX8 82 (57), Cond.methodLink RX8 118 yX8_readNumber, Cond.instanceMethod yX8_readNumber, Cond.selects RX8 yX8_readNumber yX8_readNumber, Cond.code yX8_readNumber cX8_readNumber 2 none, Cond.methodLink RX8 148 yX8_readItem, Cond.instanceMethod yX8_readItem, Cond.selects RX8 yX8_readItem yX8_readItem, Cond.code yX8_readItem cX8_readItem 3 (some .boolean), Cond.methodLink RX8 138 yX8_readWall, Cond.instanceMethod yX8_readWall, Cond.selects RX8 yX8_readWall yX8_readWall]
def wsX8_walls_r3 : List Cond := [Cond.code yX8_readWall cX8_readWall 3 (some .boolean), Cond.fieldLink RX8 13 "SeenCoolsModel" "readOf" "[I", Cond.methodLink RX8 124 yX8_number, Cond.instanceMethod yX8_number, Cond.selects RX8 yX8_number yX8_number, Cond.code yX8_number cX8_number 3 (some .int), Cond.methodLink RX8 142 yX8_readSees, Cond.instanceMethod yX8_readSees, Cond.selects RX8 yX8_readSees yX8_readSees, Cond.code yX8_readSees cX8_readSees 5 (some .boolean), Cond.methodLink RX8 131 yX8_seen, Cond.instanceMethod yX8_seen, Cond.selects RX8 yX8_seen yX8_seen, Cond.code yX8_seen cX8_seen 5 (some .int), Cond.methodLink RX8 145 yX8_readWork, Cond.instanceMethod yX8_readWork, Cond.selects RX8 yX8_readWork yX8_readWork, Cond.code yX8_readWork cX8_readWork 5 (some .boolean), Cond.methodLink RX8 151 yX8_takes, Cond.instanceMethod yX8_takes, Cond.selects RX8 yX8_takes yX8_takes, Cond.code yX8_takes cX8_takes 2 none, Cond.fieldLink RX8 154 "SeenCoolsModel" "walls" "I", Cond.fieldLink RX8 61 "SeenCoolsModel" "limit" "I"]
def wsX8_walls_r4 : List Cond := [Cond.fieldLink RX8 19 "SeenCoolsModel" "first" "[I", Cond.fieldLink RX8 22 "SeenCoolsModel" "rates" "[I", Cond.fieldLink RX8 25 "SeenCoolsModel" "works" "[I", Cond.fieldLink RX8 28 "SeenCoolsModel" "hours" "[I", Cond.fieldLink RX8 34 "SeenCoolsModel" "warm" "[I", Cond.fieldLink RX8 31 "SeenCoolsModel" "parts" "[I", Cond.fieldLink RX8 157 "SeenCoolsModel" "hour" "I", Cond.fieldLink RX8 160 "SeenCoolsModel" "shut" "I", Cond.fieldLink RX8 163 "SeenCoolsModel" "mirrors" "I", Cond.fieldLink RX8 166 "SeenCoolsModel" "given" "I", Cond.fieldLink RX8 169 "SeenCoolsModel" "undos" "I", Cond.fieldLink RX8 172 "SeenCoolsModel" "saws" "I", Cond.fieldLink RX8 58 "SeenCoolsModel" "kept" "[I"]
def wsX8_walls : List Cond := .code yX8_walls cX8_walls 2 (some .int) :: ((wsX8_walls_r1 ++ (wsX8_walls_r2 ++ (wsX8_walls_r3 ++ wsX8_walls_r4))) ++ wsX80)
def wsX8_isWall : List Cond := .code yX8_isWall cX8_isWall 2 (some .boolean) :: ([.fieldLink RX8 154 "SeenCoolsModel" "walls" "I", .methodLink RX8 67 yX8_in, .static yX8_in, .initialized RX8, .code yX8_in cX8_in 6 (some .boolean)] ++ wsX80)
def wsX8_wall : List Cond := .code yX8_wall cX8_wall 3 (some .int) :: ([.fieldLink RX8 34 "SeenCoolsModel" "warm" "[I", .fieldLink RX8 22 "SeenCoolsModel" "rates" "[I", .fieldLink RX8 25 "SeenCoolsModel" "works" "[I", .fieldLink RX8 28 "SeenCoolsModel" "hours" "[I", .fieldLink RX8 31 "SeenCoolsModel" "parts" "[I", .fieldLink RX8 160 "SeenCoolsModel" "shut" "I", .fieldLink RX8 163 "SeenCoolsModel" "mirrors" "I", .methodLink RX8 175 yX8_isWall, .instanceMethod yX8_isWall, .selects RX8 yX8_isWall yX8_isWall, .initialized RX8, .code yX8_isWall cX8_isWall 2 (some .boolean), .fieldLink RX8 154 "SeenCoolsModel" "walls" "I", .methodLink RX8 67 yX8_in, .static yX8_in, .code yX8_in cX8_in 6 (some .boolean), .methodLink RX8 131 yX8_seen, .instanceMethod yX8_seen, .selects RX8 yX8_seen yX8_seen, .code yX8_seen cX8_seen 5 (some .int)] ++ wsX80)
def wsX8_sees : List Cond := .code yX8_sees cX8_sees 3 (some .int) :: ([.fieldLink RX8 31 "SeenCoolsModel" "parts" "[I", .methodLink RX8 175 yX8_isWall, .instanceMethod yX8_isWall, .selects RX8 yX8_isWall yX8_isWall, .initialized RX8, .code yX8_isWall cX8_isWall 2 (some .boolean), .fieldLink RX8 154 "SeenCoolsModel" "walls" "I", .methodLink RX8 67 yX8_in, .static yX8_in, .code yX8_in cX8_in 6 (some .boolean)] ++ wsX80)
def wsX8_goes : List Cond := .code yX8_goes cX8_goes 13 (some .int) :: ([.fieldLink RX8 154 "SeenCoolsModel" "walls" "I", .fieldLink RX8 37 "SeenCoolsModel" "then" "[I", .fieldLink RX8 28 "SeenCoolsModel" "hours" "[I", .fieldLink RX8 25 "SeenCoolsModel" "works" "[I", .fieldLink RX8 22 "SeenCoolsModel" "rates" "[I", .fieldLink RX8 31 "SeenCoolsModel" "parts" "[I"] ++ wsX80)
def wsX8_hour : List Cond := .code yX8_hour cX8_hour 2 (some .int) :: ([.fieldLink RX8 157 "SeenCoolsModel" "hour" "I", .fieldLink RX8 34 "SeenCoolsModel" "warm" "[I", .fieldLink RX8 160 "SeenCoolsModel" "shut" "I", .fieldLink RX8 163 "SeenCoolsModel" "mirrors" "I", .fieldLink RX8 166 "SeenCoolsModel" "given" "I", .methodLink RX8 178 yX8_goes, .instanceMethod yX8_goes, .selects RX8 yX8_goes yX8_goes, .initialized RX8, .code yX8_goes cX8_goes 13 (some .int), .fieldLink RX8 154 "SeenCoolsModel" "walls" "I", .fieldLink RX8 37 "SeenCoolsModel" "then" "[I", .fieldLink RX8 28 "SeenCoolsModel" "hours" "[I", .fieldLink RX8 25 "SeenCoolsModel" "works" "[I", .fieldLink RX8 22 "SeenCoolsModel" "rates" "[I", .fieldLink RX8 31 "SeenCoolsModel" "parts" "[I"] ++ wsX80)
def wsX8_notes : List Cond := .code yX8_notes cX8_notes 3 none :: ([.fieldLink RX8 169 "SeenCoolsModel" "undos" "I", .fieldLink RX8 40 "SeenCoolsModel" "undone" "[I"] ++ wsX80)
def wsX8_many : List Cond := .code yX8_many cX8_many 3 (some .int) :: ([])
def wsX8_shut : List Cond := .code yX8_shut cX8_shut 3 (some .int) :: ([.fieldLink RX8 160 "SeenCoolsModel" "shut" "I", .methodLink RX8 175 yX8_isWall, .instanceMethod yX8_isWall, .selects RX8 yX8_isWall yX8_isWall, .initialized RX8, .code yX8_isWall cX8_isWall 2 (some .boolean), .fieldLink RX8 154 "SeenCoolsModel" "walls" "I", .methodLink RX8 67 yX8_in, .static yX8_in, .code yX8_in cX8_in 6 (some .boolean), .methodLink RX8 182 yX8_notes, .instanceMethod yX8_notes, .selects RX8 yX8_notes yX8_notes, .code yX8_notes cX8_notes 3 none, .fieldLink RX8 169 "SeenCoolsModel" "undos" "I", .fieldLink RX8 40 "SeenCoolsModel" "undone" "[I", .methodLink RX8 186 yX8_many, .static yX8_many, .code yX8_many cX8_many 3 (some .int)] ++ wsX80)
def wsX8_mirror : List Cond := .code yX8_mirror cX8_mirror 3 (some .int) :: ([.fieldLink RX8 163 "SeenCoolsModel" "mirrors" "I", .methodLink RX8 175 yX8_isWall, .instanceMethod yX8_isWall, .selects RX8 yX8_isWall yX8_isWall, .initialized RX8, .code yX8_isWall cX8_isWall 2 (some .boolean), .fieldLink RX8 154 "SeenCoolsModel" "walls" "I", .methodLink RX8 67 yX8_in, .static yX8_in, .code yX8_in cX8_in 6 (some .boolean), .methodLink RX8 182 yX8_notes, .instanceMethod yX8_notes, .selects RX8 yX8_notes yX8_notes, .code yX8_notes cX8_notes 3 none, .fieldLink RX8 169 "SeenCoolsModel" "undos" "I", .fieldLink RX8 40 "SeenCoolsModel" "undone" "[I", .methodLink RX8 186 yX8_many, .static yX8_many, .code yX8_many cX8_many 3 (some .int)] ++ wsX80)
def wsX8_undo : List Cond := .code yX8_undo cX8_undo 2 (some .int) :: ([.fieldLink RX8 169 "SeenCoolsModel" "undos" "I", .fieldLink RX8 40 "SeenCoolsModel" "undone" "[I", .fieldLink RX8 160 "SeenCoolsModel" "shut" "I", .fieldLink RX8 163 "SeenCoolsModel" "mirrors" "I"] ++ wsX80)
def wsX8_now : List Cond := .code yX8_now cX8_now 6 (some .int) :: ([.fieldLink RX8 154 "SeenCoolsModel" "walls" "I", .fieldLink RX8 34 "SeenCoolsModel" "warm" "[I", .fieldLink RX8 61 "SeenCoolsModel" "limit" "I", .fieldLink RX8 157 "SeenCoolsModel" "hour" "I", .fieldLink RX8 166 "SeenCoolsModel" "given" "I"] ++ wsX80)
def wsX8_begins : List Cond := .code yX8_begins cX8_begins 2 none :: ([.fieldLink RX8 154 "SeenCoolsModel" "walls" "I", .fieldLink RX8 43 "SeenCoolsModel" "row" "[I", .fieldLink RX8 34 "SeenCoolsModel" "warm" "[I"] ++ wsX80)
def wsX8_passes : List Cond := .code yX8_passes cX8_passes 5 none :: ([.fieldLink RX8 43 "SeenCoolsModel" "row" "[I", .fieldLink RX8 157 "SeenCoolsModel" "hour" "I", .methodLink RX8 178 yX8_goes, .instanceMethod yX8_goes, .selects RX8 yX8_goes yX8_goes, .initialized RX8, .code yX8_goes cX8_goes 13 (some .int), .fieldLink RX8 154 "SeenCoolsModel" "walls" "I", .fieldLink RX8 37 "SeenCoolsModel" "then" "[I", .fieldLink RX8 28 "SeenCoolsModel" "hours" "[I", .fieldLink RX8 25 "SeenCoolsModel" "works" "[I", .fieldLink RX8 22 "SeenCoolsModel" "rates" "[I", .fieldLink RX8 31 "SeenCoolsModel" "parts" "[I"] ++ wsX80)
def wsX8_behind_r1 : List Cond := [Cond.constantLong RX8 190 (50), Cond.fieldLink RX8 160 "SeenCoolsModel" "shut" "I", Cond.fieldLink RX8 163 "SeenCoolsModel" "mirrors" "I", Cond.fieldLink RX8 43 "SeenCoolsModel" "row" "[I", Cond.methodLink RX8 67 yX8_in, Cond.static yX8_in, Cond.initialized RX8, Cond.code yX8_in cX8_in 6 (some .boolean), Cond.methodLink RX8 175 yX8_isWall, Cond.instanceMethod yX8_isWall, Cond.selects RX8 yX8_isWall yX8_isWall, Cond.code yX8_isWall cX8_isWall 2 (some .boolean), Cond.fieldLink RX8 154 "SeenCoolsModel" "walls" "I", Cond.methodLink RX8 192 yX8_begins, Cond.instanceMethod yX8_begins, Cond.selects RX8 yX8_begins yX8_begins, Cond.code yX8_begins cX8_begins 2 none, Cond.fieldLink RX8 34 "SeenCoolsModel" "warm" "[I", Cond.methodLink RX8 195 yX8_passes, Cond.instanceMethod yX8_passes, Cond.selects RX8 yX8_passes yX8_passes, Cond.code yX8_passes cX8_passes 5 none, Cond.fieldLink RX8 157 "SeenCoolsModel" "hour" "I", Cond.methodLink RX8 178 yX8_goes]
def wsX8_behind_r2 : List Cond := [Cond.instanceMethod yX8_goes, Cond.selects RX8 yX8_goes yX8_goes, Cond.code yX8_goes cX8_goes 13 (some .int), Cond.fieldLink RX8 37 "SeenCoolsModel" "then" "[I", Cond.fieldLink RX8 28 "SeenCoolsModel" "hours" "[I", Cond.fieldLink RX8 25 "SeenCoolsModel" "works" "[I", Cond.fieldLink RX8 22 "SeenCoolsModel" "rates" "[I", Cond.fieldLink RX8 31 "SeenCoolsModel" "parts" "[I"]
def wsX8_behind : List Cond := .code yX8_behind cX8_behind 3 (some .int) :: ((wsX8_behind_r1 ++ wsX8_behind_r2) ++ wsX80)
def wsX8_tooWarm : List Cond := .code yX8_tooWarm cX8_tooWarm 2 (some .int) :: ([.fieldLink RX8 154 "SeenCoolsModel" "walls" "I", .fieldLink RX8 43 "SeenCoolsModel" "row" "[I", .fieldLink RX8 61 "SeenCoolsModel" "limit" "I"] ++ wsX80)
def wsX8_first_r1 : List Cond := [Cond.fieldLink RX8 43 "SeenCoolsModel" "row" "[I", Cond.fieldLink RX8 157 "SeenCoolsModel" "hour" "I", Cond.fieldLink RX8 160 "SeenCoolsModel" "shut" "I", Cond.fieldLink RX8 163 "SeenCoolsModel" "mirrors" "I", Cond.methodLink RX8 67 yX8_in, Cond.static yX8_in, Cond.initialized RX8, Cond.code yX8_in cX8_in 6 (some .boolean), Cond.methodLink RX8 192 yX8_begins, Cond.instanceMethod yX8_begins, Cond.selects RX8 yX8_begins yX8_begins, Cond.code yX8_begins cX8_begins 2 none, Cond.fieldLink RX8 154 "SeenCoolsModel" "walls" "I", Cond.fieldLink RX8 34 "SeenCoolsModel" "warm" "[I", Cond.methodLink RX8 199 yX8_tooWarm, Cond.instanceMethod yX8_tooWarm, Cond.selects RX8 yX8_tooWarm yX8_tooWarm, Cond.code yX8_tooWarm cX8_tooWarm 2 (some .int), Cond.fieldLink RX8 61 "SeenCoolsModel" "limit" "I", Cond.methodLink RX8 178 yX8_goes, Cond.instanceMethod yX8_goes, Cond.selects RX8 yX8_goes yX8_goes, Cond.code yX8_goes cX8_goes 13 (some .int), Cond.fieldLink RX8 37 "SeenCoolsModel" "then" "[I"]
def wsX8_first_r2 : List Cond := [Cond.fieldLink RX8 28 "SeenCoolsModel" "hours" "[I", Cond.fieldLink RX8 25 "SeenCoolsModel" "works" "[I", Cond.fieldLink RX8 22 "SeenCoolsModel" "rates" "[I", Cond.fieldLink RX8 31 "SeenCoolsModel" "parts" "[I"]
def wsX8_first : List Cond := .code yX8_first cX8_first 4 (some .int) :: ((wsX8_first_r1 ++ wsX8_first_r2) ++ wsX80)
def wsX8_rest_r1 : List Cond := [Cond.fieldLink RX8 160 "SeenCoolsModel" "shut" "I", Cond.fieldLink RX8 163 "SeenCoolsModel" "mirrors" "I", Cond.fieldLink RX8 154 "SeenCoolsModel" "walls" "I", Cond.fieldLink RX8 46 "SeenCoolsModel" "ahead" "[I", Cond.fieldLink RX8 43 "SeenCoolsModel" "row" "[I", Cond.fieldLink RX8 157 "SeenCoolsModel" "hour" "I", Cond.methodLink RX8 192 yX8_begins, Cond.instanceMethod yX8_begins, Cond.selects RX8 yX8_begins yX8_begins, Cond.initialized RX8, Cond.code yX8_begins cX8_begins 2 none, Cond.fieldLink RX8 34 "SeenCoolsModel" "warm" "[I", Cond.methodLink RX8 195 yX8_passes, Cond.instanceMethod yX8_passes, Cond.selects RX8 yX8_passes yX8_passes, Cond.code yX8_passes cX8_passes 5 none, Cond.methodLink RX8 178 yX8_goes, Cond.instanceMethod yX8_goes, Cond.selects RX8 yX8_goes yX8_goes, Cond.code yX8_goes cX8_goes 13 (some .int), Cond.fieldLink RX8 37 "SeenCoolsModel" "then" "[I", Cond.fieldLink RX8 28 "SeenCoolsModel" "hours" "[I", Cond.fieldLink RX8 25 "SeenCoolsModel" "works" "[I", Cond.fieldLink RX8 22 "SeenCoolsModel" "rates" "[I"]
def wsX8_rest_r2 : List Cond := [Cond.fieldLink RX8 31 "SeenCoolsModel" "parts" "[I"]
def wsX8_rest : List Cond := .code yX8_rest cX8_rest 4 (some .int) :: ((wsX8_rest_r1 ++ wsX8_rest_r2) ++ wsX80)
def wsX8_coolest_r1 : List Cond := [Cond.constantLong RX8 203 (20), Cond.fieldLink RX8 154 "SeenCoolsModel" "walls" "I", Cond.fieldLink RX8 163 "SeenCoolsModel" "mirrors" "I", Cond.fieldLink RX8 43 "SeenCoolsModel" "row" "[I", Cond.methodLink RX8 67 yX8_in, Cond.static yX8_in, Cond.initialized RX8, Cond.code yX8_in cX8_in 6 (some .boolean), Cond.methodLink RX8 192 yX8_begins, Cond.instanceMethod yX8_begins, Cond.selects RX8 yX8_begins yX8_begins, Cond.code yX8_begins cX8_begins 2 none, Cond.fieldLink RX8 34 "SeenCoolsModel" "warm" "[I", Cond.methodLink RX8 195 yX8_passes, Cond.instanceMethod yX8_passes, Cond.selects RX8 yX8_passes yX8_passes, Cond.code yX8_passes cX8_passes 5 none, Cond.fieldLink RX8 157 "SeenCoolsModel" "hour" "I", Cond.methodLink RX8 178 yX8_goes, Cond.instanceMethod yX8_goes, Cond.selects RX8 yX8_goes yX8_goes, Cond.code yX8_goes cX8_goes 13 (some .int), Cond.fieldLink RX8 37 "SeenCoolsModel" "then" "[I", Cond.fieldLink RX8 28 "SeenCoolsModel" "hours" "[I"]
def wsX8_coolest_r2 : List Cond := [Cond.fieldLink RX8 25 "SeenCoolsModel" "works" "[I", Cond.fieldLink RX8 22 "SeenCoolsModel" "rates" "[I", Cond.fieldLink RX8 31 "SeenCoolsModel" "parts" "[I"]
def wsX8_coolest : List Cond := .code yX8_coolest cX8_coolest 8 (some .int) :: ((wsX8_coolest_r1 ++ wsX8_coolest_r2) ++ wsX80)
def wsX8_busy_r1 : List Cond := [Cond.fieldLink RX8 28 "SeenCoolsModel" "hours" "[I", Cond.fieldLink RX8 43 "SeenCoolsModel" "row" "[I", Cond.fieldLink RX8 157 "SeenCoolsModel" "hour" "I", Cond.fieldLink RX8 160 "SeenCoolsModel" "shut" "I", Cond.fieldLink RX8 163 "SeenCoolsModel" "mirrors" "I", Cond.methodLink RX8 175 yX8_isWall, Cond.instanceMethod yX8_isWall, Cond.selects RX8 yX8_isWall yX8_isWall, Cond.initialized RX8, Cond.code yX8_isWall cX8_isWall 2 (some .boolean), Cond.fieldLink RX8 154 "SeenCoolsModel" "walls" "I", Cond.methodLink RX8 67 yX8_in, Cond.static yX8_in, Cond.code yX8_in cX8_in 6 (some .boolean), Cond.methodLink RX8 192 yX8_begins, Cond.instanceMethod yX8_begins, Cond.selects RX8 yX8_begins yX8_begins, Cond.code yX8_begins cX8_begins 2 none, Cond.fieldLink RX8 34 "SeenCoolsModel" "warm" "[I", Cond.methodLink RX8 186 yX8_many, Cond.static yX8_many, Cond.code yX8_many cX8_many 3 (some .int), Cond.methodLink RX8 178 yX8_goes, Cond.instanceMethod yX8_goes]
def wsX8_busy_r2 : List Cond := [Cond.selects RX8 yX8_goes yX8_goes, Cond.code yX8_goes cX8_goes 13 (some .int), Cond.fieldLink RX8 37 "SeenCoolsModel" "then" "[I", Cond.fieldLink RX8 25 "SeenCoolsModel" "works" "[I", Cond.fieldLink RX8 22 "SeenCoolsModel" "rates" "[I", Cond.fieldLink RX8 31 "SeenCoolsModel" "parts" "[I", Cond.methodLink RX8 199 yX8_tooWarm, Cond.instanceMethod yX8_tooWarm, Cond.selects RX8 yX8_tooWarm yX8_tooWarm, Cond.code yX8_tooWarm cX8_tooWarm 2 (some .int), Cond.fieldLink RX8 61 "SeenCoolsModel" "limit" "I"]
def wsX8_busy : List Cond := .code yX8_busy cX8_busy 8 (some .int) :: ((wsX8_busy_r1 ++ wsX8_busy_r2) ++ wsX80)
def wsX8_blanket_r1 : List Cond := [Cond.constantLong RX8 205 (999), Cond.constantLong RX8 203 (20), Cond.fieldLink RX8 154 "SeenCoolsModel" "walls" "I", Cond.fieldLink RX8 163 "SeenCoolsModel" "mirrors" "I", Cond.fieldLink RX8 160 "SeenCoolsModel" "shut" "I", Cond.fieldLink RX8 43 "SeenCoolsModel" "row" "[I", Cond.methodLink RX8 175 yX8_isWall, Cond.instanceMethod yX8_isWall, Cond.selects RX8 yX8_isWall yX8_isWall, Cond.initialized RX8, Cond.code yX8_isWall cX8_isWall 2 (some .boolean), Cond.methodLink RX8 67 yX8_in, Cond.static yX8_in, Cond.code yX8_in cX8_in 6 (some .boolean), Cond.methodLink RX8 186 yX8_many, Cond.static yX8_many, Cond.code yX8_many cX8_many 3 (some .int), Cond.methodLink RX8 192 yX8_begins, Cond.instanceMethod yX8_begins, Cond.selects RX8 yX8_begins yX8_begins, Cond.code yX8_begins cX8_begins 2 none, Cond.fieldLink RX8 34 "SeenCoolsModel" "warm" "[I", Cond.methodLink RX8 195 yX8_passes, Cond.instanceMethod yX8_passes]
def wsX8_blanket_r2 : List Cond := [Cond.selects RX8 yX8_passes yX8_passes, Cond.code yX8_passes cX8_passes 5 none, Cond.fieldLink RX8 157 "SeenCoolsModel" "hour" "I", Cond.methodLink RX8 178 yX8_goes, Cond.instanceMethod yX8_goes, Cond.selects RX8 yX8_goes yX8_goes, Cond.code yX8_goes cX8_goes 13 (some .int), Cond.fieldLink RX8 37 "SeenCoolsModel" "then" "[I", Cond.fieldLink RX8 28 "SeenCoolsModel" "hours" "[I", Cond.fieldLink RX8 25 "SeenCoolsModel" "works" "[I", Cond.fieldLink RX8 22 "SeenCoolsModel" "rates" "[I", Cond.fieldLink RX8 31 "SeenCoolsModel" "parts" "[I"]
def wsX8_blanket : List Cond := .code yX8_blanket cX8_blanket 7 (some .int) :: ((wsX8_blanket_r1 ++ wsX8_blanket_r2) ++ wsX80)
def wsX8_sumWith : List Cond := .code yX8_sumWith cX8_sumWith 5 (some .int) :: ([.fieldLink RX8 43 "SeenCoolsModel" "row" "[I", .fieldLink RX8 157 "SeenCoolsModel" "hour" "I", .fieldLink RX8 160 "SeenCoolsModel" "shut" "I", .fieldLink RX8 163 "SeenCoolsModel" "mirrors" "I", .fieldLink RX8 154 "SeenCoolsModel" "walls" "I", .methodLink RX8 192 yX8_begins, .instanceMethod yX8_begins, .selects RX8 yX8_begins yX8_begins, .initialized RX8, .code yX8_begins cX8_begins 2 none, .fieldLink RX8 34 "SeenCoolsModel" "warm" "[I", .methodLink RX8 178 yX8_goes, .instanceMethod yX8_goes, .selects RX8 yX8_goes yX8_goes, .code yX8_goes cX8_goes 13 (some .int), .fieldLink RX8 37 "SeenCoolsModel" "then" "[I", .fieldLink RX8 28 "SeenCoolsModel" "hours" "[I", .fieldLink RX8 25 "SeenCoolsModel" "works" "[I", .fieldLink RX8 22 "SeenCoolsModel" "rates" "[I", .fieldLink RX8 31 "SeenCoolsModel" "parts" "[I"] ++ wsX80)
def wsX8_harm_r1 : List Cond := [Cond.constantLong RX8 190 (50), Cond.constant RX8 207 (-1000000), Cond.fieldLink RX8 154 "SeenCoolsModel" "walls" "I", Cond.methodLink RX8 175 yX8_isWall, Cond.instanceMethod yX8_isWall, Cond.selects RX8 yX8_isWall yX8_isWall, Cond.initialized RX8, Cond.code yX8_isWall cX8_isWall 2 (some .boolean), Cond.methodLink RX8 67 yX8_in, Cond.static yX8_in, Cond.code yX8_in cX8_in 6 (some .boolean), Cond.methodLink RX8 208 yX8_sumWith, Cond.instanceMethod yX8_sumWith, Cond.selects RX8 yX8_sumWith yX8_sumWith, Cond.code yX8_sumWith cX8_sumWith 5 (some .int), Cond.fieldLink RX8 43 "SeenCoolsModel" "row" "[I", Cond.fieldLink RX8 157 "SeenCoolsModel" "hour" "I", Cond.fieldLink RX8 160 "SeenCoolsModel" "shut" "I", Cond.fieldLink RX8 163 "SeenCoolsModel" "mirrors" "I", Cond.methodLink RX8 192 yX8_begins, Cond.instanceMethod yX8_begins, Cond.selects RX8 yX8_begins yX8_begins, Cond.code yX8_begins cX8_begins 2 none, Cond.fieldLink RX8 34 "SeenCoolsModel" "warm" "[I"]
def wsX8_harm_r2 : List Cond := [Cond.methodLink RX8 178 yX8_goes, Cond.instanceMethod yX8_goes, Cond.selects RX8 yX8_goes yX8_goes, Cond.code yX8_goes cX8_goes 13 (some .int), Cond.fieldLink RX8 37 "SeenCoolsModel" "then" "[I", Cond.fieldLink RX8 28 "SeenCoolsModel" "hours" "[I", Cond.fieldLink RX8 25 "SeenCoolsModel" "works" "[I", Cond.fieldLink RX8 22 "SeenCoolsModel" "rates" "[I", Cond.fieldLink RX8 31 "SeenCoolsModel" "parts" "[I"]
def wsX8_harm : List Cond := .code yX8_harm cX8_harm 8 (some .int) :: ((wsX8_harm_r1 ++ wsX8_harm_r2) ++ wsX80)
def wsX8_saw : List Cond := .code yX8_saw cX8_saw 4 (some .int) :: ([.constantLong RX8 203 (20), .constantLong RX8 211 (9999), .fieldLink RX8 172 "SeenCoolsModel" "saws" "I", .fieldLink RX8 49 "SeenCoolsModel" "sawWhen" "[I", .fieldLink RX8 52 "SeenCoolsModel" "sawWall" "[I", .fieldLink RX8 55 "SeenCoolsModel" "sawWarm" "[I", .methodLink RX8 67 yX8_in, .static yX8_in, .initialized RX8, .code yX8_in cX8_in 6 (some .boolean), .methodLink RX8 175 yX8_isWall, .instanceMethod yX8_isWall, .selects RX8 yX8_isWall yX8_isWall, .code yX8_isWall cX8_isWall 2 (some .boolean), .fieldLink RX8 154 "SeenCoolsModel" "walls" "I"] ++ wsX80)
def wsX8_forget : List Cond := .code yX8_forget cX8_forget 2 (some .int) :: ([.fieldLink RX8 172 "SeenCoolsModel" "saws" "I"] ++ wsX80)
def wsX8_isSo : List Cond := .code yX8_isSo cX8_isSo 3 (some .boolean) :: ([.fieldLink RX8 154 "SeenCoolsModel" "walls" "I", .fieldLink RX8 43 "SeenCoolsModel" "row" "[I", .fieldLink RX8 19 "SeenCoolsModel" "first" "[I", .fieldLink RX8 172 "SeenCoolsModel" "saws" "I", .fieldLink RX8 49 "SeenCoolsModel" "sawWhen" "[I", .fieldLink RX8 52 "SeenCoolsModel" "sawWall" "[I", .fieldLink RX8 55 "SeenCoolsModel" "sawWarm" "[I", .methodLink RX8 178 yX8_goes, .instanceMethod yX8_goes, .selects RX8 yX8_goes yX8_goes, .initialized RX8, .code yX8_goes cX8_goes 13 (some .int), .fieldLink RX8 37 "SeenCoolsModel" "then" "[I", .fieldLink RX8 28 "SeenCoolsModel" "hours" "[I", .fieldLink RX8 25 "SeenCoolsModel" "works" "[I", .fieldLink RX8 22 "SeenCoolsModel" "rates" "[I", .fieldLink RX8 31 "SeenCoolsModel" "parts" "[I"] ++ wsX80)
def wsX8_hole : List Cond := .code yX8_hole cX8_hole 5 (some .int) :: ([.fieldLink RX8 22 "SeenCoolsModel" "rates" "[I", .methodLink RX8 213 yX8_isSo, .instanceMethod yX8_isSo, .selects RX8 yX8_isSo yX8_isSo, .initialized RX8, .code yX8_isSo cX8_isSo 3 (some .boolean), .fieldLink RX8 154 "SeenCoolsModel" "walls" "I", .fieldLink RX8 43 "SeenCoolsModel" "row" "[I", .fieldLink RX8 19 "SeenCoolsModel" "first" "[I", .fieldLink RX8 172 "SeenCoolsModel" "saws" "I", .fieldLink RX8 49 "SeenCoolsModel" "sawWhen" "[I", .fieldLink RX8 52 "SeenCoolsModel" "sawWall" "[I", .fieldLink RX8 55 "SeenCoolsModel" "sawWarm" "[I", .methodLink RX8 178 yX8_goes, .instanceMethod yX8_goes, .selects RX8 yX8_goes yX8_goes, .code yX8_goes cX8_goes 13 (some .int), .fieldLink RX8 37 "SeenCoolsModel" "then" "[I", .fieldLink RX8 28 "SeenCoolsModel" "hours" "[I", .fieldLink RX8 25 "SeenCoolsModel" "works" "[I", .fieldLink RX8 31 "SeenCoolsModel" "parts" "[I"] ++ wsX80)
def wsX8_holes_r1 : List Cond := [Cond.fieldLink RX8 154 "SeenCoolsModel" "walls" "I", Cond.methodLink RX8 175 yX8_isWall, Cond.instanceMethod yX8_isWall, Cond.selects RX8 yX8_isWall yX8_isWall, Cond.initialized RX8, Cond.code yX8_isWall cX8_isWall 2 (some .boolean), Cond.methodLink RX8 67 yX8_in, Cond.static yX8_in, Cond.code yX8_in cX8_in 6 (some .boolean), Cond.methodLink RX8 216 yX8_hole, Cond.instanceMethod yX8_hole, Cond.selects RX8 yX8_hole yX8_hole, Cond.code yX8_hole cX8_hole 5 (some .int), Cond.fieldLink RX8 22 "SeenCoolsModel" "rates" "[I", Cond.methodLink RX8 213 yX8_isSo, Cond.instanceMethod yX8_isSo, Cond.selects RX8 yX8_isSo yX8_isSo, Cond.code yX8_isSo cX8_isSo 3 (some .boolean), Cond.fieldLink RX8 43 "SeenCoolsModel" "row" "[I", Cond.fieldLink RX8 19 "SeenCoolsModel" "first" "[I", Cond.fieldLink RX8 172 "SeenCoolsModel" "saws" "I", Cond.fieldLink RX8 49 "SeenCoolsModel" "sawWhen" "[I", Cond.fieldLink RX8 52 "SeenCoolsModel" "sawWall" "[I", Cond.fieldLink RX8 55 "SeenCoolsModel" "sawWarm" "[I"]
def wsX8_holes_r2 : List Cond := [Cond.methodLink RX8 178 yX8_goes, Cond.instanceMethod yX8_goes, Cond.selects RX8 yX8_goes yX8_goes, Cond.code yX8_goes cX8_goes 13 (some .int), Cond.fieldLink RX8 37 "SeenCoolsModel" "then" "[I", Cond.fieldLink RX8 28 "SeenCoolsModel" "hours" "[I", Cond.fieldLink RX8 25 "SeenCoolsModel" "works" "[I", Cond.fieldLink RX8 31 "SeenCoolsModel" "parts" "[I"]
def wsX8_holes : List Cond := .code yX8_holes cX8_holes 4 (some .int) :: ((wsX8_holes_r1 ++ wsX8_holes_r2) ++ wsX80)
def wsX8_mark_r1 : List Cond := [Cond.constantLong RX8 219 (5), Cond.constant RX8 207 (-1000000), Cond.fieldLink RX8 221 "SeenCoolsModel" "trace" "J", Cond.constantLong RX8 225 (11), Cond.constantLong RX8 227 (101), Cond.constantLong RX8 229 (1011), Cond.constantLong RX8 231 (10101), Cond.constantLong RX8 233 (100001), Cond.fieldLink RX8 31 "SeenCoolsModel" "parts" "[I", Cond.fieldLink RX8 34 "SeenCoolsModel" "warm" "[I", Cond.fieldLink RX8 22 "SeenCoolsModel" "rates" "[I", Cond.fieldLink RX8 157 "SeenCoolsModel" "hour" "I", Cond.methodLink RX8 67 yX8_in, Cond.static yX8_in, Cond.initialized RX8, Cond.code yX8_in cX8_in 6 (some .boolean), Cond.methodLink RX8 175 yX8_isWall, Cond.instanceMethod yX8_isWall, Cond.selects RX8 yX8_isWall yX8_isWall, Cond.code yX8_isWall cX8_isWall 2 (some .boolean), Cond.fieldLink RX8 154 "SeenCoolsModel" "walls" "I", Cond.methodLink RX8 131 yX8_seen, Cond.instanceMethod yX8_seen, Cond.selects RX8 yX8_seen yX8_seen]
def wsX8_mark_r2 : List Cond := [Cond.code yX8_seen cX8_seen 5 (some .int)]
def wsX8_mark : List Cond := .code yX8_mark cX8_mark 4 (some .int) :: ((wsX8_mark_r1 ++ wsX8_mark_r2) ++ wsX80)
def wsX8_trace : List Cond := .code yX8_trace cX8_trace 1 (some .long) :: ([.fieldLink RX8 221 "SeenCoolsModel" "trace" "J"] ++ wsX80)
def wsX8_keep : List Cond := .code yX8_keep cX8_keep 4 (some .int) :: ([.fieldLink RX8 58 "SeenCoolsModel" "kept" "[I", .fieldLink RX8 157 "SeenCoolsModel" "hour" "I", .fieldLink RX8 160 "SeenCoolsModel" "shut" "I", .fieldLink RX8 163 "SeenCoolsModel" "mirrors" "I", .fieldLink RX8 166 "SeenCoolsModel" "given" "I", .fieldLink RX8 169 "SeenCoolsModel" "undos" "I", .fieldLink RX8 34 "SeenCoolsModel" "warm" "[I", .fieldLink RX8 40 "SeenCoolsModel" "undone" "[I", .methodLink RX8 67 yX8_in, .static yX8_in, .initialized RX8, .code yX8_in cX8_in 6 (some .boolean)] ++ wsX80)
def wsX8_back : List Cond := .code yX8_back cX8_back 4 (some .int) :: ([.fieldLink RX8 58 "SeenCoolsModel" "kept" "[I", .fieldLink RX8 157 "SeenCoolsModel" "hour" "I", .fieldLink RX8 160 "SeenCoolsModel" "shut" "I", .fieldLink RX8 163 "SeenCoolsModel" "mirrors" "I", .fieldLink RX8 166 "SeenCoolsModel" "given" "I", .fieldLink RX8 169 "SeenCoolsModel" "undos" "I", .fieldLink RX8 34 "SeenCoolsModel" "warm" "[I", .fieldLink RX8 40 "SeenCoolsModel" "undone" "[I", .methodLink RX8 67 yX8_in, .static yX8_in, .initialized RX8, .code yX8_in cX8_in 6 (some .boolean)] ++ wsX80)
def wsX8_count : List Cond := .code yX8_count cX8_count 2 (some .int) :: ([.fieldLink RX8 154 "SeenCoolsModel" "walls" "I", .fieldLink RX8 61 "SeenCoolsModel" "limit" "I", .fieldLink RX8 160 "SeenCoolsModel" "shut" "I", .fieldLink RX8 163 "SeenCoolsModel" "mirrors" "I", .fieldLink RX8 172 "SeenCoolsModel" "saws" "I", .fieldLink RX8 169 "SeenCoolsModel" "undos" "I", .fieldLink RX8 71 "SeenCoolsModel" "size" "I", .methodLink RX8 186 yX8_many, .static yX8_many, .initialized RX8, .code yX8_many cX8_many 3 (some .int)] ++ wsX80)
def wsJ9_max_7cf53 : List Cond := .code yJ9_max_7cf53 cJ9_max_7cf53 2 (some .int) :: ([])
def wsL_law_r1 : List Cond := [Cond.classLink RL 7 RX7, Cond.instantiable RX7 10, Cond.initialized RX7, Cond.classLink RL 10 RX8, Cond.instantiable RX8 33, Cond.initialized RX8, Cond.constantLong RL 13 (4294967295), Cond.methodLink RL 9 yX7_init, Cond.instanceMethod yX7_init, Cond.code yX7_init cX7_init 2 none, Cond.methodLink RX7 3 objectInit, Cond.instanceMethod objectInit, Cond.code objectInit ⟨#[0xb1]⟩ 1 none, Cond.classLink RX7 9 RX4, Cond.instantiable RX4 2, Cond.initialized RX4, Cond.fieldLink RX7 12 "SeenCools" "text" "LSeenCools$Text;", Cond.classLink RX7 16 RX2, Cond.instantiable RX2 6, Cond.initialized RX2, Cond.fieldLink RX7 19 "SeenCools" "reader" "LSeenCools$Reader;", Cond.classLink RX7 23 RX1, Cond.instantiable RX1 8, Cond.initialized RX1]
def wsL_law_r2 : List Cond := [Cond.fieldLink RX7 26 "SeenCools" "present" "LSeenCools$Present;", Cond.classLink RX7 30 RX3, Cond.instantiable RX3 4, Cond.initialized RX3, Cond.fieldLink RX7 33 "SeenCools" "sights" "LSeenCools$Sights;", Cond.classLink RX7 37 RX0, Cond.instantiable RX0 3, Cond.initialized RX0, Cond.fieldLink RX7 40 "SeenCools" "ahead" "LSeenCools$Ahead;", Cond.fieldLink RX7 44 "SeenCools" "images" "[LSeenCools$Present;", Cond.classLink RX7 48 RX6, Cond.instantiable RX6 9, Cond.initialized RX6, Cond.fieldLink RX7 51 "SeenCools" "told" "LSeenCools$Yard;", Cond.fieldLink RX7 55 "SeenCools" "draft" "LSeenCools$Yard;", Cond.instanceMethod yX4_init, Cond.code yX4_init cX4_init 1 none, Cond.methodLink RX4 1 objectInit, Cond.arrayClass .byte, Cond.fieldLink RX4 9 "SeenCools$Text" "bytes" "[B", Cond.instanceMethod yX2_init, Cond.code yX2_init cX2_init 1 none, Cond.methodLink RX2 3 objectInit, Cond.classLink RX2 9 RX5]
def wsL_law_r3 : List Cond := [Cond.instantiable RX5 4, Cond.initialized RX5, Cond.fieldLink RX2 12 "SeenCools$Reader" "tokens" "LSeenCools$Tokens;", Cond.instanceMethod yX5_init, Cond.code yX5_init cX5_init 1 none, Cond.methodLink RX5 3 objectInit, Cond.arrayClass .int, Cond.fieldLink RX5 11 "SeenCools$Tokens" "place" "[I", Cond.fieldLink RX5 15 "SeenCools$Tokens" "sort" "[I", Cond.fieldLink RX5 18 "SeenCools$Tokens" "value" "[I", Cond.instanceMethod yX1_init, Cond.code yX1_init cX1_init 1 none, Cond.methodLink RX1 3 objectInit, Cond.fieldLink RX1 9 "SeenCools$Present" "warmth" "[I", Cond.fieldLink RX1 15 "SeenCools$Present" "warmthThen" "[I", Cond.fieldLink RX1 18 "SeenCools$Present" "changes" "[I", Cond.instanceMethod yX3_init, Cond.code yX3_init cX3_init 1 none, Cond.methodLink RX3 3 objectInit, Cond.fieldLink RX3 9 "SeenCools$Sights" "behindHours" "[I", Cond.fieldLink RX3 15 "SeenCools$Sights" "which" "[I", Cond.fieldLink RX3 18 "SeenCools$Sights" "warmth" "[I", Cond.instanceMethod yX0_init, Cond.code yX0_init cX0_init 1 none]
def wsL_law_r4 : List Cond := [Cond.methodLink RX0 3 objectInit, Cond.classLink RX0 9 RX1, Cond.fieldLink RX0 12 "SeenCools$Ahead" "then" "LSeenCools$Present;", Cond.classLink RX0 18 RX6, Cond.fieldLink RX0 21 "SeenCools$Ahead" "asIf" "LSeenCools$Yard;", Cond.fieldLink RX0 25 "SeenCools$Ahead" "round" "[I", Cond.methodLink RX0 20 yX6_init, Cond.instanceMethod yX6_init, Cond.code yX6_init cX6_init 1 none, Cond.methodLink RX6 3 objectInit, Cond.fieldLink RX6 9 "SeenCools$Yard" "warmth" "[I", Cond.fieldLink RX6 15 "SeenCools$Yard" "rate" "[I", Cond.fieldLink RX6 18 "SeenCools$Yard" "work" "[I", Cond.fieldLink RX6 21 "SeenCools$Yard" "hours" "[I", Cond.fieldLink RX6 24 "SeenCools$Yard" "parts" "[I", Cond.fieldLink RX6 27 "SeenCools$Yard" "partsOfAll" "[I", Cond.fieldLink RX6 30 "SeenCools$Yard" "furnace" "[I", Cond.methodLink RX6 33 yX6_makeEmpty, Cond.instanceMethod yX6_makeEmpty, Cond.selects RX6 yX6_makeEmpty yX6_makeEmpty, Cond.code yX6_makeEmpty cX6_makeEmpty 2 none, Cond.fieldLink RX6 36 "SeenCools$Yard" "number" "I", Cond.methodLink RX6 40 yX6_setLimit, Cond.instanceMethod yX6_setLimit]
def wsL_law_r5 : List Cond := [Cond.selects RX6 yX6_setLimit yX6_setLimit, Cond.code yX6_setLimit cX6_setLimit 2 none, Cond.fieldLink RX6 44 "SeenCools$Yard" "limit" "I", Cond.methodLink RX7 50 yX6_init, Cond.methodLink RL 12 yX8_init, Cond.instanceMethod yX8_init, Cond.code yX8_init cX8_init 1 none, Cond.methodLink RX8 1 objectInit, Cond.fieldLink RX8 7 "SeenCoolsModel" "text" "[I", Cond.fieldLink RX8 13 "SeenCoolsModel" "readOf" "[I", Cond.fieldLink RX8 16 "SeenCoolsModel" "readParts" "[I", Cond.fieldLink RX8 19 "SeenCoolsModel" "first" "[I", Cond.fieldLink RX8 22 "SeenCoolsModel" "rates" "[I", Cond.fieldLink RX8 25 "SeenCoolsModel" "works" "[I", Cond.fieldLink RX8 28 "SeenCoolsModel" "hours" "[I", Cond.fieldLink RX8 31 "SeenCoolsModel" "parts" "[I", Cond.fieldLink RX8 34 "SeenCoolsModel" "warm" "[I", Cond.fieldLink RX8 37 "SeenCoolsModel" "then" "[I", Cond.fieldLink RX8 40 "SeenCoolsModel" "undone" "[I", Cond.fieldLink RX8 43 "SeenCoolsModel" "row" "[I", Cond.fieldLink RX8 46 "SeenCoolsModel" "ahead" "[I", Cond.fieldLink RX8 49 "SeenCoolsModel" "sawWhen" "[I", Cond.fieldLink RX8 52 "SeenCoolsModel" "sawWall" "[I", Cond.fieldLink RX8 55 "SeenCoolsModel" "sawWarm" "[I"]
def wsL_law_r6 : List Cond := [Cond.fieldLink RX8 58 "SeenCoolsModel" "kept" "[I", Cond.fieldLink RX8 61 "SeenCoolsModel" "limit" "I", Cond.methodLink RL 15 yX7_type, Cond.instanceMethod yX7_type, Cond.selects RX7 yX7_type yX7_type, Cond.code yX7_type cX7_type 4 (some .int), Cond.fieldLink RX7 66 "SeenCools$Text" "length" "I", Cond.methodLink RX7 58 yX4_hasRoomFor, Cond.instanceMethod yX4_hasRoomFor, Cond.selects RX4 yX4_hasRoomFor yX4_hasRoomFor, Cond.code yX4_hasRoomFor cX4_hasRoomFor 2 (some .boolean), Cond.fieldLink RX4 13 "SeenCools$Text" "length" "I", Cond.methodLink RX7 62 yX4_append, Cond.instanceMethod yX4_append, Cond.selects RX4 yX4_append yX4_append, Cond.code yX4_append cX4_append 5 none, Cond.methodLink RL 19 yX8_type, Cond.instanceMethod yX8_type, Cond.selects RX8 yX8_type yX8_type, Cond.code yX8_type cX8_type 5 (some .int), Cond.constantLong RX8 65 (8), Cond.fieldLink RX8 71 "SeenCoolsModel" "size" "I", Cond.constantLong RX8 74 (255), Cond.methodLink RX8 67 yX8_in]
def wsL_law_r7 : List Cond := [Cond.static yX8_in, Cond.code yX8_in cX8_in 6 (some .boolean), Cond.methodLink RL 20 yX7_clear, Cond.instanceMethod yX7_clear, Cond.selects RX7 yX7_clear yX7_clear, Cond.code yX7_clear cX7_clear 2 (some .int), Cond.methodLink RL 24 yX8_clear, Cond.instanceMethod yX8_clear, Cond.selects RX8 yX8_clear yX8_clear, Cond.code yX8_clear cX8_clear 2 (some .int), Cond.methodLink RL 25 yX7_walls, Cond.instanceMethod yX7_walls, Cond.selects RX7 yX7_walls yX7_walls, Cond.code yX7_walls cX7_walls 3 (some .int), Cond.fieldLink RX7 78 "SeenCools$Sights" "number" "I", Cond.fieldLink RX7 81 "SeenCools" "imagesKept" "I", Cond.methodLink RX7 70 yX2_readInto, Cond.instanceMethod yX2_readInto, Cond.selects RX2 yX2_readInto yX2_readInto, Cond.code yX2_readInto cX2_readInto 4 (some .int), Cond.fieldLink RX2 27 "SeenCools$Reader" "next" "I", Cond.fieldLink RX2 31 "SeenCools$Reader" "limitTold" "Z", Cond.fieldLink RX2 38 "SeenCools$Reader" "sort" "I", Cond.fieldLink RX2 45 "SeenCools$Reader" "place" "I"]
def wsL_law_r8 : List Cond := [Cond.methodLink RX2 18 yX5_cut, Cond.instanceMethod yX5_cut, Cond.selects RX5 yX5_cut yX5_cut, Cond.code yX5_cut cX5_cut 4 none, Cond.fieldLink RX5 21 "SeenCools$Tokens" "number" "I", Cond.fieldLink RX5 29 "SeenCools$Text" "length" "I", Cond.methodLink RX5 25 yX5_skipBlanks, Cond.instanceMethod yX5_skipBlanks, Cond.selects RX5 yX5_skipBlanks yX5_skipBlanks, Cond.code yX5_skipBlanks cX5_skipBlanks 4 (some .int), Cond.fieldLink RX5 39 "SeenCools$Text" "bytes" "[B", Cond.methodLink RX5 32 yX5_cutOne, Cond.instanceMethod yX5_cutOne, Cond.selects RX5 yX5_cutOne yX5_cutOne, Cond.code yX5_cutOne cX5_cutOne 3 (some .int), Cond.methodLink RX5 43 yX4_isLetter, Cond.instanceMethod yX4_isLetter, Cond.selects RX4 yX4_isLetter yX4_isLetter, Cond.code yX4_isLetter cX4_isLetter 2 (some .boolean), Cond.methodLink RX5 47 yX5_cutWord, Cond.instanceMethod yX5_cutWord, Cond.selects RX5 yX5_cutWord yX5_cutWord, Cond.code yX5_cutWord cX5_cutWord 5 (some .int), Cond.methodLink RX5 56 yX5_whichWord]
def wsL_law_r9 : List Cond := [Cond.instanceMethod yX5_whichWord, Cond.selects RX5 yX5_whichWord yX5_whichWord, Cond.code yX5_whichWord cX5_whichWord 4 (some .int), Cond.methodLink RX5 62 yX4_isWord, Cond.instanceMethod yX4_isWord, Cond.selects RX4 yX4_isWord yX4_isWord, Cond.code yX4_isWord cX4_isWord 5 (some .boolean), Cond.methodLink RX4 17 yJ0_length_8abf5, Cond.instanceMethod yJ0_length_8abf5, Cond.selects RJ0 yJ0_length_8abf5 yJ0_length_8abf5, Cond.initialized RJ0, Cond.code yJ0_length_8abf5 cJ0_length_8abf5 1 (some .int), Cond.fieldLink RJ0 9 "java/lang/String" "value" "[B", Cond.methodLink RJ0 335 yJ0_coder_7d493, Cond.instanceMethod yJ0_coder_7d493, Cond.selects RJ0 yJ0_coder_7d493 yJ0_coder_7d493, Cond.code yJ0_coder_7d493 cJ0_coder_7d493 1 (some .byte), Cond.fieldLink RJ0 38 "java/lang/String" "COMPACT_STRINGS" "Z", Cond.fieldLink RJ0 15 "java/lang/String" "coder" "B", Cond.methodLink RX4 22 yJ0_charAt_5068e, Cond.instanceMethod yJ0_charAt_5068e, Cond.selects RJ0 yJ0_charAt_5068e yJ0_charAt_5068e, Cond.code yJ0_charAt_5068e cJ0_charAt_5068e 2 (some .char), Cond.methodLink RJ0 492 yJ0_isLatin1_aae02]
def wsL_law_r10 : List Cond := [Cond.instanceMethod yJ0_isLatin1_aae02, Cond.selects RJ0 yJ0_isLatin1_aae02 yJ0_isLatin1_aae02, Cond.code yJ0_isLatin1_aae02 cJ0_isLatin1_aae02 1 (some .boolean), Cond.methodLink RJ0 495 yJ1_charAt_3b067, Cond.static yJ1_charAt_3b067, Cond.initialized RJ1, Cond.code yJ1_charAt_3b067 cJ1_charAt_3b067 2 (some .char), Cond.methodLink RJ1 9 yJ0_checkIndex_df160, Cond.static yJ0_checkIndex_df160, Cond.code yJ0_checkIndex_df160 cJ0_checkIndex_df160 2 none, Cond.fieldLink RJ0 1053 "jdk/internal/util/Preconditions" "SIOOBE_FORMATTER" "Ljava/util/function/BiFunction;", Cond.methodLink RJ0 1059 yJ3_checkIndex_8e157, Cond.static yJ3_checkIndex_8e157, Cond.initialized RJ3, Cond.code yJ3_checkIndex_8e157 cJ3_checkIndex_8e157 3 (some .int), Cond.methodLink RJ0 498 yJ2_charAt_3b067, Cond.static yJ2_charAt_3b067, Cond.initialized RJ2, Cond.code yJ2_charAt_3b067 cJ2_charAt_3b067 2 (some .char), Cond.methodLink RJ2 67 yJ2_checkIndex_2214a, Cond.static yJ2_checkIndex_2214a, Cond.code yJ2_checkIndex_2214a cJ2_checkIndex_2214a 2 none, Cond.methodLink RJ2 48 yJ2_length_9d52b, Cond.static yJ2_length_9d52b]
def wsL_law_r11 : List Cond := [Cond.code yJ2_length_9d52b cJ2_length_9d52b 1 (some .int), Cond.methodLink RJ2 414 yJ0_checkIndex_df160, Cond.methodLink RJ2 71 yJ2_getChar_3b067, Cond.static yJ2_getChar_3b067, Cond.code yJ2_getChar_3b067 cJ2_getChar_3b067 2 (some .char), Cond.fieldLink RJ2 44 "java/lang/StringUTF16" "$assertionsDisabled" "Z", Cond.fieldLink RJ2 59 "java/lang/StringUTF16" "HI_BYTE_SHIFT" "I", Cond.fieldLink RJ2 63 "java/lang/StringUTF16" "LO_BYTE_SHIFT" "I", Cond.methodLink RX5 35 yX5_add, Cond.instanceMethod yX5_add, Cond.selects RX5 yX5_add yX5_add, Cond.code yX5_add cX5_add 4 none, Cond.methodLink RX5 50 yX4_isDigit, Cond.instanceMethod yX4_isDigit, Cond.selects RX4 yX4_isDigit yX4_isDigit, Cond.code yX4_isDigit cX4_isDigit 2 (some .boolean), Cond.methodLink RX5 53 yX5_cutNumber, Cond.instanceMethod yX5_cutNumber, Cond.selects RX5 yX5_cutNumber yX5_cutNumber, Cond.code yX5_cutNumber cX5_cutNumber 7 (some .int), Cond.methodLink RX2 22 yX6_makeEmpty, Cond.methodLink RX2 35 yX2_readToken, Cond.instanceMethod yX2_readToken, Cond.selects RX2 yX2_readToken yX2_readToken]
def wsL_law_r12 : List Cond := [Cond.code yX2_readToken cX2_readToken 1 none, Cond.fieldLink RX2 48 "SeenCools$Tokens" "number" "I", Cond.fieldLink RX2 51 "SeenCools$Tokens" "place" "[I", Cond.fieldLink RX2 54 "SeenCools$Tokens" "sort" "[I", Cond.fieldLink RX2 56 "SeenCools$Tokens" "value" "[I", Cond.fieldLink RX2 59 "SeenCools$Reader" "value" "I", Cond.methodLink RX2 41 yX2_readItem, Cond.instanceMethod yX2_readItem, Cond.selects RX2 yX2_readItem yX2_readItem, Cond.code yX2_readItem cX2_readItem 2 (some .boolean), Cond.methodLink RX2 61 yX2_readWall, Cond.instanceMethod yX2_readWall, Cond.selects RX2 yX2_readWall yX2_readWall, Cond.code yX2_readWall cX2_readWall 4 (some .boolean), Cond.methodLink RX2 73 yX6_hasRoom, Cond.instanceMethod yX6_hasRoom, Cond.selects RX6 yX6_hasRoom yX6_hasRoom, Cond.code yX6_hasRoom cX6_hasRoom 1 (some .boolean), Cond.methodLink RX2 77 yX2_readNumber, Cond.instanceMethod yX2_readNumber, Cond.selects RX2 yX2_readNumber yX2_readNumber, Cond.code yX2_readNumber cX2_readNumber 3 (some .boolean), Cond.methodLink RX2 81 yX2_readSemicolon, Cond.instanceMethod yX2_readSemicolon]
def wsL_law_r13 : List Cond := [Cond.selects RX2 yX2_readSemicolon yX2_readSemicolon, Cond.code yX2_readSemicolon cX2_readSemicolon 1 (some .boolean), Cond.methodLink RX2 84 yX6_addWall, Cond.instanceMethod yX6_addWall, Cond.selects RX6 yX6_addWall yX6_addWall, Cond.code yX6_addWall cX6_addWall 3 none, Cond.methodLink RX2 64 yX2_readSees, Cond.instanceMethod yX2_readSees, Cond.selects RX2 yX2_readSees yX2_readSees, Cond.code yX2_readSees cX2_readSees 5 (some .boolean), Cond.fieldLink RX2 88 "SeenCools$Yard" "number" "I", Cond.methodLink RX2 89 yX6_partsLeft, Cond.instanceMethod yX6_partsLeft, Cond.selects RX6 yX6_partsLeft yX6_partsLeft, Cond.code yX6_partsLeft cX6_partsLeft 3 (some .int), Cond.methodLink RX6 47 Lib.Math.max.name, Cond.static Lib.Math.max.name, Cond.initialized "java/lang/Math", Cond.code Lib.Math.max.name Lib.Math.max.code 2 (some .int), Cond.methodLink RX2 93 yX6_addParts, Cond.instanceMethod yX6_addParts, Cond.selects RX6 yX6_addParts yX6_addParts, Cond.code yX6_addParts cX6_addParts 4 none, Cond.methodLink RX2 67 yX2_readWork]
def wsL_law_r14 : List Cond := [Cond.instanceMethod yX2_readWork, Cond.selects RX2 yX2_readWork yX2_readWork, Cond.code yX2_readWork cX2_readWork 5 (some .boolean), Cond.fieldLink RX2 97 "SeenCools$Yard" "work" "[I", Cond.fieldLink RX2 100 "SeenCools$Yard" "hours" "[I", Cond.methodLink RX2 70 yX2_readLimit, Cond.instanceMethod yX2_readLimit, Cond.selects RX2 yX2_readLimit yX2_readLimit, Cond.code yX2_readLimit cX2_readLimit 3 (some .boolean), Cond.methodLink RX2 103 yX6_setLimit, Cond.methodLink RX7 74 yX1_begin, Cond.instanceMethod yX1_begin, Cond.selects RX1 yX1_begin yX1_begin, Cond.code yX1_begin cX1_begin 3 none, Cond.fieldLink RX1 21 "SeenCools$Present" "hours" "I", Cond.fieldLink RX1 25 "SeenCools$Present" "shutOnes" "I", Cond.fieldLink RX1 28 "SeenCools$Present" "mirrors" "I", Cond.fieldLink RX1 31 "SeenCools$Present" "givenToDark" "I", Cond.fieldLink RX1 34 "SeenCools$Present" "changesKnown" "I", Cond.fieldLink RX1 37 "SeenCools$Yard" "warmth" "[I", Cond.methodLink RL 28 yX8_walls, Cond.instanceMethod yX8_walls, Cond.selects RX8 yX8_walls yX8_walls, Cond.code yX8_walls cX8_walls 2 (some .int)]
def wsL_law_r15 : List Cond := [Cond.fieldLink RX8 84 "SeenCoolsModel" "at" "I", Cond.fieldLink RX8 128 "SeenCoolsModel" "readWalls" "I", Cond.fieldLink RX8 135 "SeenCoolsModel" "readLimit" "I", Cond.fieldLink RX8 109 "SeenCoolsModel" "token" "I", Cond.fieldLink RX8 91 "SeenCoolsModel" "begin" "I", Cond.methodLink RX8 121 yX8_reads, Cond.instanceMethod yX8_reads, Cond.selects RX8 yX8_reads yX8_reads, Cond.code yX8_reads cX8_reads 1 none, Cond.methodLink RX8 87 yX8_isLetter, Cond.static yX8_isLetter, Cond.code yX8_isLetter cX8_isLetter 1 (some .boolean), Cond.constantLong RX8 76 (97), Cond.constantLong RX8 78 (122), Cond.methodLink RX8 115 yX8_readWord, Cond.instanceMethod yX8_readWord, Cond.selects RX8 yX8_readWord yX8_readWord, Cond.code yX8_readWord cX8_readWord 3 none, Cond.constantLong RX8 94 (-1), Cond.constantLong RX8 96 (256), Cond.constantLong RX8 98 (2002873452), Cond.constantLong RX8 100 (1936024947), Cond.constantLong RX8 102 (2003792491), Cond.constantLong RX8 104 (465625246068)]
def wsL_law_r16 : List Cond := [Cond.fieldLink RX8 106 "SeenCoolsModel" "told" "I", Cond.methodLink RX8 112 yX8_isFigure, Cond.static yX8_isFigure, Cond.code yX8_isFigure cX8_isFigure 1 (some .boolean), Cond.constantLong RX8 80 (48), Cond.constantLong RX8 82 (57), Cond.methodLink RX8 118 yX8_readNumber, Cond.instanceMethod yX8_readNumber, Cond.selects RX8 yX8_readNumber yX8_readNumber, Cond.code yX8_readNumber cX8_readNumber 2 none, Cond.methodLink RX8 148 yX8_readItem, Cond.instanceMethod yX8_readItem, Cond.selects RX8 yX8_readItem yX8_readItem, Cond.code yX8_readItem cX8_readItem 3 (some .boolean), Cond.methodLink RX8 138 yX8_readWall, Cond.instanceMethod yX8_readWall, Cond.selects RX8 yX8_readWall yX8_readWall, Cond.code yX8_readWall cX8_readWall 3 (some .boolean), Cond.methodLink RX8 124 yX8_number, Cond.instanceMethod yX8_number, Cond.selects RX8 yX8_number yX8_number, Cond.code yX8_number cX8_number 3 (some .int), Cond.methodLink RX8 142 yX8_readSees, Cond.instanceMethod yX8_readSees]
def wsL_law_r17 : List Cond := [Cond.selects RX8 yX8_readSees yX8_readSees, Cond.code yX8_readSees cX8_readSees 5 (some .boolean), Cond.methodLink RX8 131 yX8_seen, Cond.instanceMethod yX8_seen, Cond.selects RX8 yX8_seen yX8_seen, Cond.code yX8_seen cX8_seen 5 (some .int), Cond.methodLink RX8 145 yX8_readWork, Cond.instanceMethod yX8_readWork, Cond.selects RX8 yX8_readWork yX8_readWork, Cond.code yX8_readWork cX8_readWork 5 (some .boolean), Cond.methodLink RX8 151 yX8_takes, Cond.instanceMethod yX8_takes, Cond.selects RX8 yX8_takes yX8_takes, Cond.code yX8_takes cX8_takes 2 none, Cond.fieldLink RX8 154 "SeenCoolsModel" "walls" "I", Cond.fieldLink RX8 157 "SeenCoolsModel" "hour" "I", Cond.fieldLink RX8 160 "SeenCoolsModel" "shut" "I", Cond.fieldLink RX8 163 "SeenCoolsModel" "mirrors" "I", Cond.fieldLink RX8 166 "SeenCoolsModel" "given" "I", Cond.fieldLink RX8 169 "SeenCoolsModel" "undos" "I", Cond.fieldLink RX8 172 "SeenCoolsModel" "saws" "I", Cond.methodLink RL 29 yX7_wall, Cond.instanceMethod yX7_wall, Cond.selects RX7 yX7_wall yX7_wall]
def wsL_law_r18 : List Cond := [Cond.code yX7_wall cX7_wall 3 (some .int), Cond.fieldLink RX7 87 "SeenCools$Present" "warmth" "[I", Cond.fieldLink RX7 91 "SeenCools$Yard" "rate" "[I", Cond.fieldLink RX7 94 "SeenCools$Yard" "work" "[I", Cond.fieldLink RX7 97 "SeenCools$Yard" "hours" "[I", Cond.fieldLink RX7 104 "SeenCools$Present" "shutOnes" "I", Cond.fieldLink RX7 111 "SeenCools$Present" "mirrors" "I", Cond.methodLink RX7 84 yX7_isWall, Cond.instanceMethod yX7_isWall, Cond.selects RX7 yX7_isWall yX7_isWall, Cond.code yX7_isWall cX7_isWall 2 (some .boolean), Cond.fieldLink RX7 141 "SeenCools$Yard" "number" "I", Cond.methodLink RX7 100 yX6_dark, Cond.instanceMethod yX6_dark, Cond.selects RX6 yX6_dark yX6_dark, Cond.code yX6_dark cX6_dark 2 (some .int), Cond.methodLink RX7 107 yX7_bit, Cond.static yX7_bit, Cond.code yX7_bit cX7_bit 2 (some .int), Cond.methodLink RL 33 yX8_wall, Cond.instanceMethod yX8_wall, Cond.selects RX8 yX8_wall yX8_wall, Cond.code yX8_wall cX8_wall 3 (some .int), Cond.methodLink RX8 175 yX8_isWall]
def wsL_law_r19 : List Cond := [Cond.instanceMethod yX8_isWall, Cond.selects RX8 yX8_isWall yX8_isWall, Cond.code yX8_isWall cX8_isWall 2 (some .boolean), Cond.methodLink RL 34 yX7_sees, Cond.instanceMethod yX7_sees, Cond.selects RX7 yX7_sees yX7_sees, Cond.code yX7_sees cX7_sees 3 (some .int), Cond.fieldLink RX7 114 "SeenCools$Yard" "parts" "[I", Cond.methodLink RL 37 yX8_sees, Cond.instanceMethod yX8_sees, Cond.selects RX8 yX8_sees yX8_sees, Cond.code yX8_sees cX8_sees 3 (some .int), Cond.methodLink RL 38 yX7_hour, Cond.instanceMethod yX7_hour, Cond.selects RX7 yX7_hour yX7_hour, Cond.code yX7_hour cX7_hour 1 (some .int), Cond.fieldLink RX7 117 "SeenCools$Present" "hours" "I", Cond.methodLink RX7 119 yX1_goBy, Cond.instanceMethod yX1_goBy, Cond.selects RX1 yX1_goBy yX1_goBy, Cond.code yX1_goBy cX1_goBy 5 (some .int), Cond.fieldLink RX1 48 "SeenCools$Yard" "number" "I", Cond.fieldLink RX1 51 "SeenCools$Yard" "hours" "[I", Cond.fieldLink RX1 57 "SeenCools$Yard" "work" "[I"]
def wsL_law_r20 : List Cond := [Cond.fieldLink RX1 60 "SeenCools$Yard" "furnace" "[I", Cond.methodLink RX1 63 yX1_giveOff, Cond.instanceMethod yX1_giveOff, Cond.selects RX1 yX1_giveOff yX1_giveOff, Cond.code yX1_giveOff cX1_giveOff 7 (some .int), Cond.fieldLink RX1 67 "SeenCools$Yard" "rate" "[I", Cond.fieldLink RX1 70 "SeenCools$Yard" "parts" "[I", Cond.methodLink RL 41 yX8_hour, Cond.instanceMethod yX8_hour, Cond.selects RX8 yX8_hour yX8_hour, Cond.code yX8_hour cX8_hour 2 (some .int), Cond.methodLink RX8 178 yX8_goes, Cond.instanceMethod yX8_goes, Cond.selects RX8 yX8_goes yX8_goes, Cond.code yX8_goes cX8_goes 13 (some .int), Cond.methodLink RL 42 yX7_shut, Cond.instanceMethod yX7_shut, Cond.selects RX7 yX7_shut yX7_shut, Cond.code yX7_shut cX7_shut 3 (some .int), Cond.methodLink RX7 123 yX7_isBit, Cond.static yX7_isBit, Cond.code yX7_isBit cX7_isBit 1 (some .boolean), Cond.methodLink RX7 126 yX1_change, Cond.instanceMethod yX1_change]
def wsL_law_r21 : List Cond := [Cond.selects RX1 yX1_change yX1_change, Cond.code yX1_change cX1_change 3 none, Cond.methodLink RX1 44 yX1_turn, Cond.instanceMethod yX1_turn, Cond.selects RX1 yX1_turn yX1_turn, Cond.code yX1_turn cX1_turn 2 none, Cond.methodLink RX7 130 yJ6_bitCount_0f7a4, Cond.static yJ6_bitCount_0f7a4, Cond.initialized RJ6, Cond.code yJ6_bitCount_0f7a4 cJ6_bitCount_0f7a4 1 (some .int), Cond.constant RJ6 265 (1431655765), Cond.constant RJ6 266 (858993459), Cond.constant RJ6 267 (252645135), Cond.methodLink RL 45 yX8_shut, Cond.instanceMethod yX8_shut, Cond.selects RX8 yX8_shut yX8_shut, Cond.code yX8_shut cX8_shut 3 (some .int), Cond.methodLink RX8 182 yX8_notes, Cond.instanceMethod yX8_notes, Cond.selects RX8 yX8_notes yX8_notes, Cond.code yX8_notes cX8_notes 3 none, Cond.methodLink RX8 186 yX8_many, Cond.static yX8_many, Cond.code yX8_many cX8_many 3 (some .int)]
def wsL_law_r22 : List Cond := [Cond.methodLink RL 46 yX7_mirror, Cond.instanceMethod yX7_mirror, Cond.selects RX7 yX7_mirror yX7_mirror, Cond.code yX7_mirror cX7_mirror 3 (some .int), Cond.methodLink RL 49 yX8_mirror, Cond.instanceMethod yX8_mirror, Cond.selects RX8 yX8_mirror yX8_mirror, Cond.code yX8_mirror cX8_mirror 3 (some .int), Cond.methodLink RL 50 yX7_undo, Cond.instanceMethod yX7_undo, Cond.selects RX7 yX7_undo yX7_undo, Cond.code yX7_undo cX7_undo 1 (some .int), Cond.fieldLink RX7 135 "SeenCools$Present" "changesKnown" "I", Cond.methodLink RX7 138 yX1_changeBack, Cond.instanceMethod yX1_changeBack, Cond.selects RX1 yX1_changeBack yX1_changeBack, Cond.code yX1_changeBack cX1_changeBack 1 none, Cond.methodLink RL 53 yX8_undo, Cond.instanceMethod yX8_undo, Cond.selects RX8 yX8_undo yX8_undo, Cond.code yX8_undo cX8_undo 2 (some .int), Cond.methodLink RL 54 yX7_now, Cond.instanceMethod yX7_now, Cond.selects RX7 yX7_now yX7_now]
def wsL_law_r23 : List Cond := [Cond.code yX7_now cX7_now 2 (some .int), Cond.fieldLink RX7 145 "SeenCools$Present" "givenToDark" "I", Cond.methodLink RX7 142 yX1_warmthOfAll, Cond.instanceMethod yX1_warmthOfAll, Cond.selects RX1 yX1_warmthOfAll yX1_warmthOfAll, Cond.code yX1_warmthOfAll cX1_warmthOfAll 4 (some .int), Cond.methodLink RX7 148 yX1_tooWarm, Cond.instanceMethod yX1_tooWarm, Cond.selects RX1 yX1_tooWarm yX1_tooWarm, Cond.code yX1_tooWarm cX1_tooWarm 4 (some .int), Cond.fieldLink RX1 73 "SeenCools$Yard" "limit" "I", Cond.methodLink RX7 151 yX1_warmest, Cond.instanceMethod yX1_warmest, Cond.selects RX1 yX1_warmest yX1_warmest, Cond.code yX1_warmest cX1_warmest 4 (some .int), Cond.methodLink RL 58 yX8_now, Cond.instanceMethod yX8_now, Cond.selects RX8 yX8_now yX8_now, Cond.code yX8_now cX8_now 6 (some .int), Cond.methodLink RL 59 yX7_behind, Cond.instanceMethod yX7_behind, Cond.selects RX7 yX7_behind yX7_behind, Cond.code yX7_behind cX7_behind 3 (some .int), Cond.fieldLink RX7 166 "SeenCools$Ahead" "then" "LSeenCools$Present;"]
def wsL_law_r24 : List Cond := [Cond.methodLink RX7 154 yX7_isWithin, Cond.static yX7_isWithin, Cond.code yX7_isWithin cX7_isWithin 2 (some .boolean), Cond.methodLink RX7 158 yX0_setOut, Cond.instanceMethod yX0_setOut, Cond.selects RX0 yX0_setOut yX0_setOut, Cond.code yX0_setOut cX0_setOut 2 none, Cond.methodLink RX0 29 yX1_copy, Cond.instanceMethod yX1_copy, Cond.selects RX1 yX1_copy yX1_copy, Cond.code yX1_copy cX1_copy 3 none, Cond.methodLink RX7 162 yX0_goOn, Cond.instanceMethod yX0_goOn, Cond.selects RX0 yX0_goOn yX0_goOn, Cond.code yX0_goOn cX0_goOn 4 none, Cond.methodLink RX0 33 yX1_goBy, Cond.methodLink RL 62 yX8_behind, Cond.instanceMethod yX8_behind, Cond.selects RX8 yX8_behind yX8_behind, Cond.code yX8_behind cX8_behind 3 (some .int), Cond.constantLong RX8 190 (50), Cond.methodLink RX8 192 yX8_begins, Cond.instanceMethod yX8_begins, Cond.selects RX8 yX8_begins yX8_begins]
def wsL_law_r25 : List Cond := [Cond.code yX8_begins cX8_begins 2 none, Cond.methodLink RX8 195 yX8_passes, Cond.instanceMethod yX8_passes, Cond.selects RX8 yX8_passes yX8_passes, Cond.code yX8_passes cX8_passes 5 none, Cond.methodLink RL 63 yX7_first, Cond.instanceMethod yX7_first, Cond.selects RX7 yX7_first yX7_first, Cond.code yX7_first cX7_first 4 (some .int), Cond.methodLink RX7 169 yX7_leastOf, Cond.static yX7_leastOf, Cond.code yX7_leastOf cX7_leastOf 2 (some .int), Cond.methodLink RL 66 yX8_first, Cond.instanceMethod yX8_first, Cond.selects RX8 yX8_first yX8_first, Cond.code yX8_first cX8_first 4 (some .int), Cond.methodLink RX8 199 yX8_tooWarm, Cond.instanceMethod yX8_tooWarm, Cond.selects RX8 yX8_tooWarm yX8_tooWarm, Cond.code yX8_tooWarm cX8_tooWarm 2 (some .int), Cond.methodLink RL 67 yX7_rest, Cond.instanceMethod yX7_rest, Cond.selects RX7 yX7_rest yX7_rest, Cond.code yX7_rest cX7_rest 1 (some .int)]
def wsL_law_r26 : List Cond := [Cond.methodLink RX7 172 yX0_hoursToRest, Cond.instanceMethod yX0_hoursToRest, Cond.selects RX0 yX0_hoursToRest yX0_hoursToRest, Cond.code yX0_hoursToRest cX0_hoursToRest 5 (some .int), Cond.fieldLink RX0 37 "SeenCools$Yard" "number" "I", Cond.fieldLink RX0 45 "SeenCools$Present" "warmth" "[I", Cond.methodLink RX0 41 yX0_isAsInRow, Cond.instanceMethod yX0_isAsInRow, Cond.selects RX0 yX0_isAsInRow yX0_isAsInRow, Cond.code yX0_isAsInRow cX0_isAsInRow 4 (some .boolean), Cond.methodLink RL 70 yX8_rest, Cond.instanceMethod yX8_rest, Cond.selects RX8 yX8_rest yX8_rest, Cond.code yX8_rest cX8_rest 4 (some .int), Cond.methodLink RL 71 yX7_coolest, Cond.instanceMethod yX7_coolest, Cond.selects RX7 yX7_coolest yX7_coolest, Cond.code yX7_coolest cX7_coolest 7 (some .int), Cond.methodLink RX7 175 yX0_warmestIfShut, Cond.instanceMethod yX0_warmestIfShut, Cond.selects RX0 yX0_warmestIfShut yX0_warmestIfShut, Cond.code yX0_warmestIfShut cX0_warmestIfShut 5 (some .int), Cond.fieldLink RX0 51 "SeenCools$Present" "shutOnes" "I", Cond.methodLink RX0 48 yX0_setOut]
def wsL_law_r27 : List Cond := [Cond.methodLink RX0 54 yX0_goOn, Cond.methodLink RX0 58 yX1_warmthOfWarmest, Cond.instanceMethod yX1_warmthOfWarmest, Cond.selects RX1 yX1_warmthOfWarmest yX1_warmthOfWarmest, Cond.code yX1_warmthOfWarmest cX1_warmthOfWarmest 4 (some .int), Cond.methodLink RX1 76 Lib.Math.max.name, Cond.methodLink RL 74 yX8_coolest, Cond.instanceMethod yX8_coolest, Cond.selects RX8 yX8_coolest yX8_coolest, Cond.code yX8_coolest cX8_coolest 8 (some .int), Cond.constantLong RX8 203 (20), Cond.methodLink RL 75 yX7_busy, Cond.instanceMethod yX7_busy, Cond.selects RX7 yX7_busy yX7_busy, Cond.code yX7_busy cX7_busy 5 (some .int), Cond.fieldLink RX7 179 "SeenCools$Ahead" "asIf" "LSeenCools$Yard;", Cond.methodLink RX7 182 yX6_copy, Cond.instanceMethod yX6_copy, Cond.selects RX6 yX6_copy yX6_copy, Cond.code yX6_copy cX6_copy 3 none, Cond.methodLink RX7 185 yX7_busyHours, Cond.instanceMethod yX7_busyHours, Cond.selects RX7 yX7_busyHours yX7_busyHours, Cond.code yX7_busyHours cX7_busyHours 4 (some .int)]
def wsL_law_r28 : List Cond := [Cond.methodLink RX7 241 yX0_staysCool, Cond.instanceMethod yX0_staysCool, Cond.selects RX0 yX0_staysCool yX0_staysCool, Cond.code yX0_staysCool cX0_staysCool 4 (some .boolean), Cond.methodLink RX0 65 yX1_tooWarm, Cond.methodLink RL 78 yX8_busy, Cond.instanceMethod yX8_busy, Cond.selects RX8 yX8_busy yX8_busy, Cond.code yX8_busy cX8_busy 8 (some .int), Cond.methodLink RL 79 yX7_blanket, Cond.instanceMethod yX7_blanket, Cond.selects RX7 yX7_blanket yX7_blanket, Cond.code yX7_blanket cX7_blanket 6 (some .int), Cond.methodLink RX7 188 yX7_blanketOf, Cond.instanceMethod yX7_blanketOf, Cond.selects RX7 yX7_blanketOf yX7_blanketOf, Cond.code yX7_blanketOf cX7_blanketOf 7 (some .int), Cond.methodLink RX7 245 yX0_warmthIfMirrors, Cond.instanceMethod yX0_warmthIfMirrors, Cond.selects RX0 yX0_warmthIfMirrors yX0_warmthIfMirrors, Cond.code yX0_warmthIfMirrors cX0_warmthIfMirrors 6 (some .int), Cond.fieldLink RX0 62 "SeenCools$Present" "mirrors" "I", Cond.methodLink RL 83 yX8_blanket, Cond.instanceMethod yX8_blanket]
def wsL_law_r29 : List Cond := [Cond.selects RX8 yX8_blanket yX8_blanket, Cond.code yX8_blanket cX8_blanket 7 (some .int), Cond.constantLong RX8 205 (999), Cond.methodLink RL 84 yX7_harm, Cond.instanceMethod yX7_harm, Cond.selects RX7 yX7_harm yX7_harm, Cond.code yX7_harm cX7_harm 3 (some .int), Cond.constant RX7 192 (-1000000), Cond.methodLink RX7 193 yX7_leastHarmed, Cond.instanceMethod yX7_leastHarmed, Cond.selects RX7 yX7_leastHarmed yX7_leastHarmed, Cond.code yX7_leastHarmed cX7_leastHarmed 6 (some .int), Cond.methodLink RX7 196 yX7_harmDone, Cond.instanceMethod yX7_harmDone, Cond.selects RX7 yX7_harmDone yX7_harmDone, Cond.code yX7_harmDone cX7_harmDone 4 (some .int), Cond.fieldLink RX7 249 "SeenCools$Yard" "furnace" "[I", Cond.methodLink RL 87 yX8_harm, Cond.instanceMethod yX8_harm, Cond.selects RX8 yX8_harm yX8_harm, Cond.code yX8_harm cX8_harm 8 (some .int), Cond.constant RX8 207 (-1000000), Cond.methodLink RX8 208 yX8_sumWith, Cond.instanceMethod yX8_sumWith]
def wsL_law_r30 : List Cond := [Cond.selects RX8 yX8_sumWith yX8_sumWith, Cond.code yX8_sumWith cX8_sumWith 5 (some .int), Cond.methodLink RL 88 yX7_saw, Cond.instanceMethod yX7_saw, Cond.selects RX7 yX7_saw yX7_saw, Cond.code yX7_saw cX7_saw 4 (some .int), Cond.methodLink RX7 199 yX3_add, Cond.instanceMethod yX3_add, Cond.selects RX3 yX3_add yX3_add, Cond.code yX3_add cX3_add 4 none, Cond.fieldLink RX3 21 "SeenCools$Sights" "number" "I", Cond.methodLink RL 91 yX8_saw, Cond.instanceMethod yX8_saw, Cond.selects RX8 yX8_saw yX8_saw, Cond.code yX8_saw cX8_saw 4 (some .int), Cond.constantLong RX8 211 (9999), Cond.methodLink RL 92 yX7_forget, Cond.instanceMethod yX7_forget, Cond.selects RX7 yX7_forget yX7_forget, Cond.code yX7_forget cX7_forget 2 (some .int), Cond.methodLink RL 95 yX8_forget, Cond.instanceMethod yX8_forget, Cond.selects RX8 yX8_forget yX8_forget, Cond.code yX8_forget cX8_forget 2 (some .int)]
def wsL_law_r31 : List Cond := [Cond.methodLink RL 96 yX7_holes, Cond.instanceMethod yX7_holes, Cond.selects RX7 yX7_holes yX7_holes, Cond.code yX7_holes cX7_holes 2 (some .int), Cond.methodLink RX7 203 yX7_holesOfAll, Cond.instanceMethod yX7_holesOfAll, Cond.selects RX7 yX7_holesOfAll yX7_holesOfAll, Cond.code yX7_holesOfAll cX7_holesOfAll 3 (some .int), Cond.methodLink RX7 252 yX0_allSeenIsSo, Cond.instanceMethod yX0_allSeenIsSo, Cond.selects RX0 yX0_allSeenIsSo yX0_allSeenIsSo, Cond.code yX0_allSeenIsSo cX0_allSeenIsSo 4 (some .boolean), Cond.methodLink RX0 68 yX1_begin, Cond.methodLink RX0 72 yX3_latest, Cond.instanceMethod yX3_latest, Cond.selects RX3 yX3_latest yX3_latest, Cond.code yX3_latest cX3_latest 3 (some .int), Cond.methodLink RX3 25 Lib.Math.max.name, Cond.methodLink RX0 78 yX3_areSo, Cond.instanceMethod yX3_areSo, Cond.selects RX3 yX3_areSo yX3_areSo, Cond.code yX3_areSo cX3_areSo 4 (some .boolean), Cond.fieldLink RX3 31 "SeenCools$Present" "warmth" "[I", Cond.methodLink RX7 207 yX7_holeRate]
def wsL_law_r32 : List Cond := [Cond.instanceMethod yX7_holeRate, Cond.selects RX7 yX7_holeRate yX7_holeRate, Cond.code yX7_holeRate cX7_holeRate 4 (some .int), Cond.methodLink RL 99 yX8_holes, Cond.instanceMethod yX8_holes, Cond.selects RX8 yX8_holes yX8_holes, Cond.code yX8_holes cX8_holes 4 (some .int), Cond.methodLink RX8 216 yX8_hole, Cond.instanceMethod yX8_hole, Cond.selects RX8 yX8_hole yX8_hole, Cond.code yX8_hole cX8_hole 5 (some .int), Cond.methodLink RX8 213 yX8_isSo, Cond.instanceMethod yX8_isSo, Cond.selects RX8 yX8_isSo yX8_isSo, Cond.code yX8_isSo cX8_isSo 3 (some .boolean), Cond.methodLink RL 100 yX7_mark, Cond.instanceMethod yX7_mark, Cond.selects RX7 yX7_mark yX7_mark, Cond.code yX7_mark cX7_mark 3 (some .int), Cond.methodLink RX7 210 yX7_markOfWall, Cond.instanceMethod yX7_markOfWall, Cond.selects RX7 yX7_markOfWall yX7_markOfWall, Cond.code yX7_markOfWall cX7_markOfWall 2 (some .int), Cond.fieldLink RX7 237 "SeenCools" "theTrace" "J"]
def wsL_law_r33 : List Cond := [Cond.methodLink RX7 213 yX7_markOfFin, Cond.instanceMethod yX7_markOfFin, Cond.selects RX7 yX7_markOfFin yX7_markOfFin, Cond.code yX7_markOfFin cX7_markOfFin 2 (some .int), Cond.constantLong RX7 256 (10), Cond.methodLink RX7 216 yX7_markOfBrick, Cond.instanceMethod yX7_markOfBrick, Cond.selects RX7 yX7_markOfBrick yX7_markOfBrick, Cond.code yX7_markOfBrick cX7_markOfBrick 2 (some .int), Cond.constantLong RX7 258 (100), Cond.methodLink RX7 219 yX7_markOfFurnace, Cond.instanceMethod yX7_markOfFurnace, Cond.selects RX7 yX7_markOfFurnace yX7_markOfFurnace, Cond.code yX7_markOfFurnace cX7_markOfFurnace 2 (some .int), Cond.constantLong RX7 260 (1000), Cond.methodLink RX7 222 yX7_markOfWindow, Cond.instanceMethod yX7_markOfWindow, Cond.selects RX7 yX7_markOfWindow yX7_markOfWindow, Cond.code yX7_markOfWindow cX7_markOfWindow 2 (some .int), Cond.constantLong RX7 262 (10000), Cond.methodLink RX7 225 yX7_markOfHull, Cond.instanceMethod yX7_markOfHull, Cond.selects RX7 yX7_markOfHull yX7_markOfHull, Cond.code yX7_markOfHull cX7_markOfHull 2 (some .int)]
def wsL_law_r34 : List Cond := [Cond.constantLong RX7 264 (100000), Cond.methodLink RL 103 yX8_mark, Cond.instanceMethod yX8_mark, Cond.selects RX8 yX8_mark yX8_mark, Cond.code yX8_mark cX8_mark 4 (some .int), Cond.constantLong RX8 219 (5), Cond.fieldLink RX8 221 "SeenCoolsModel" "trace" "J", Cond.constantLong RX8 225 (11), Cond.constantLong RX8 227 (101), Cond.constantLong RX8 229 (1011), Cond.constantLong RX8 231 (10101), Cond.constantLong RX8 233 (100001), Cond.methodLink RL 104 yX7_keep, Cond.instanceMethod yX7_keep, Cond.selects RX7 yX7_keep yX7_keep, Cond.code yX7_keep cX7_keep 2 (some .int), Cond.methodLink RX7 228 yX7_isImage, Cond.static yX7_isImage, Cond.code yX7_isImage cX7_isImage 1 (some .boolean), Cond.methodLink RX7 231 yX1_copyWithChanges, Cond.instanceMethod yX1_copyWithChanges, Cond.selects RX1 yX1_copyWithChanges yX1_copyWithChanges, Cond.code yX1_copyWithChanges cX1_copyWithChanges 3 none, Cond.methodLink RX1 40 yX1_copy]
def wsL_law_r35 : List Cond := [Cond.methodLink RL 107 yX8_keep, Cond.instanceMethod yX8_keep, Cond.selects RX8 yX8_keep yX8_keep, Cond.code yX8_keep cX8_keep 4 (some .int), Cond.methodLink RL 108 yX7_back, Cond.instanceMethod yX7_back, Cond.selects RX7 yX7_back yX7_back, Cond.code yX7_back cX7_back 2 (some .int), Cond.methodLink RL 111 yX8_back, Cond.instanceMethod yX8_back, Cond.selects RX8 yX8_back yX8_back, Cond.code yX8_back cX8_back 4 (some .int), Cond.methodLink RL 112 yX7_count, Cond.instanceMethod yX7_count, Cond.selects RX7 yX7_count yX7_count, Cond.code yX7_count cX7_count 2 (some .int), Cond.fieldLink RX7 234 "SeenCools$Yard" "limit" "I", Cond.methodLink RL 115 yX8_count, Cond.instanceMethod yX8_count, Cond.selects RX8 yX8_count yX8_count, Cond.code yX8_count cX8_count 2 (some .int), Cond.methodLink RL 116 yX7_trace, Cond.instanceMethod yX7_trace, Cond.selects RX7 yX7_trace yX7_trace]
def wsL_law_r36 : List Cond := [Cond.code yX7_trace cX7_trace 1 (some .long), Cond.methodLink RL 120 yX8_trace, Cond.instanceMethod yX8_trace, Cond.selects RX8 yX8_trace yX8_trace, Cond.code yX8_trace cX8_trace 1 (some .long)]
def wsL_law : List Cond := (wsL_law_r1 ++ (wsL_law_r2 ++ (wsL_law_r3 ++ (wsL_law_r4 ++ (wsL_law_r5 ++ (wsL_law_r6 ++ (wsL_law_r7 ++ (wsL_law_r8 ++ (wsL_law_r9 ++ (wsL_law_r10 ++ (wsL_law_r11 ++ (wsL_law_r12 ++ (wsL_law_r13 ++ (wsL_law_r14 ++ (wsL_law_r15 ++ (wsL_law_r16 ++ (wsL_law_r17 ++ (wsL_law_r18 ++ (wsL_law_r19 ++ (wsL_law_r20 ++ (wsL_law_r21 ++ (wsL_law_r22 ++ (wsL_law_r23 ++ (wsL_law_r24 ++ (wsL_law_r25 ++ (wsL_law_r26 ++ (wsL_law_r27 ++ (wsL_law_r28 ++ (wsL_law_r29 ++ (wsL_law_r30 ++ (wsL_law_r31 ++ (wsL_law_r32 ++ (wsL_law_r33 ++ (wsL_law_r34 ++ (wsL_law_r35 ++ wsL_law_r36))))))))))))))))))))))))))))))))))) ++ wsX70 ++ wsX80 ++ wsX40 ++ wsX20 ++ wsX10 ++ wsX30 ++ wsX00 ++ wsX60 ++ wsX50 ++ ([] : List Cond)
set_option maxRecDepth 20000 in
theorem wsL_law_in : ∀ w ∈ wsL_law, w ∈ lw_tbl := fun w h => (goodIn_p wsL_law [52, 55, 60, 77, 83, 126, 167, 187, 195, 200, 204, 747, 301, 305, 309, 852, 856, 313, 861, 317, 321, 325, 329, 333, 337, 341, 345, 350, 354, 358, 364, 368, 371, 374, 379, 382, 385, 388, 392, 405, 409, 413, 418, 422, 426, 430, 434, 438, 442, 446, 450, 453, 457, 461, 465, 470, 865, 869, 872, 878, 887, 893, 897, 901, 905, 909, 913, 917, 921, 474, 478, 482, 485, 925, 929, 489, 933, 493, 497, 502, 937, 941, 506, 509, 513, 517, 520, 945, 949, 952, 527, 956, 531, 535, 960, 539, 543, 547, 551, 964, 555, 558, 562, 566, 570, 968, 973, 977, 575, 578, 981, 985, 582, 586, 590, 989, 594, 598, 604, 993, 609, 613, 617, 621, 998, 626, 630, 634, 1002, 638, 643, 647, 1007, 1012, 651, 655, 1016, 659, 1021, 663, 667, 671, 676, 681, 685, 1025, 1029, 1033, 689, 693, 697, 702, 707, 712, 717, 1037, 722, 725, 729, 1051, 734, 1055, 738, 1059, 742, 1047] (by decide +kernel) (by decide +kernel) w h).1
theorem inlX0 : ∀ w ∈ wsX00, w ∈ wsL_law := fun _ h => List.mem_append_left _ (List.mem_append_left _ (List.mem_append_left _ (List.mem_append_right _ h)))
theorem inX0 : ∀ w ∈ wsX00, w ∈ lw_tbl := fun w h => wsL_law_in w (inlX0 w h)
theorem inlX1 : ∀ w ∈ wsX10, w ∈ wsL_law := fun _ h => List.mem_append_left _ (List.mem_append_left _ (List.mem_append_left _ (List.mem_append_left _ (List.mem_append_left _ (List.mem_append_right _ h)))))
theorem inX1 : ∀ w ∈ wsX10, w ∈ lw_tbl := fun w h => wsL_law_in w (inlX1 w h)
theorem inlX2 : ∀ w ∈ wsX20, w ∈ wsL_law := fun _ h => List.mem_append_left _ (List.mem_append_left _ (List.mem_append_left _ (List.mem_append_left _ (List.mem_append_left _ (List.mem_append_left _ (List.mem_append_right _ h))))))
theorem inX2 : ∀ w ∈ wsX20, w ∈ lw_tbl := fun w h => wsL_law_in w (inlX2 w h)
theorem inlX3 : ∀ w ∈ wsX30, w ∈ wsL_law := fun _ h => List.mem_append_left _ (List.mem_append_left _ (List.mem_append_left _ (List.mem_append_left _ (List.mem_append_right _ h))))
theorem inX3 : ∀ w ∈ wsX30, w ∈ lw_tbl := fun w h => wsL_law_in w (inlX3 w h)
theorem inlX4 : ∀ w ∈ wsX40, w ∈ wsL_law := fun _ h => List.mem_append_left _ (List.mem_append_left _ (List.mem_append_left _ (List.mem_append_left _ (List.mem_append_left _ (List.mem_append_left _ (List.mem_append_left _ (List.mem_append_right _ h)))))))
theorem inX4 : ∀ w ∈ wsX40, w ∈ lw_tbl := fun w h => wsL_law_in w (inlX4 w h)
theorem inlX5 : ∀ w ∈ wsX50, w ∈ wsL_law := fun _ h => List.mem_append_left _ (List.mem_append_right _ h)
theorem inX5 : ∀ w ∈ wsX50, w ∈ lw_tbl := fun w h => wsL_law_in w (inlX5 w h)
theorem inlX6 : ∀ w ∈ wsX60, w ∈ wsL_law := fun _ h => List.mem_append_left _ (List.mem_append_left _ (List.mem_append_right _ h))
theorem inX6 : ∀ w ∈ wsX60, w ∈ lw_tbl := fun w h => wsL_law_in w (inlX6 w h)
theorem inlX7 : ∀ w ∈ wsX70, w ∈ wsL_law := fun _ h => List.mem_append_left _ (List.mem_append_left _ (List.mem_append_left _ (List.mem_append_left _ (List.mem_append_left _ (List.mem_append_left _ (List.mem_append_left _ (List.mem_append_left _ (List.mem_append_left _ (List.mem_append_right _ h)))))))))
theorem inX7 : ∀ w ∈ wsX70, w ∈ lw_tbl := fun w h => wsL_law_in w (inlX7 w h)
theorem inlX8 : ∀ w ∈ wsX80, w ∈ wsL_law := fun _ h => List.mem_append_left _ (List.mem_append_left _ (List.mem_append_left _ (List.mem_append_left _ (List.mem_append_left _ (List.mem_append_left _ (List.mem_append_left _ (List.mem_append_left _ (List.mem_append_right _ h))))))))
theorem inX8 : ∀ w ∈ wsX80, w ∈ lw_tbl := fun w h => wsL_law_in w (inlX8 w h)
theorem inJ6 : ∀ w ∈ wsJ60, w ∈ lw_tbl := by decide +kernel
theorem inJ9 : ∀ w ∈ wsJ90, w ∈ lw_tbl := by decide +kernel
theorem inJ0 : ∀ w ∈ wsJ00, w ∈ lw_tbl := by decide +kernel
theorem inJ1 : ∀ w ∈ wsJ10, w ∈ lw_tbl := by decide +kernel
theorem inJ2 : ∀ w ∈ wsJ20, w ∈ lw_tbl := by decide +kernel
theorem inJ3 : ∀ w ∈ wsJ30, w ∈ lw_tbl := by decide +kernel
abbrev vwCl : List vw_C := [(RX0, TX0, 3), (RX1, TX1, 8), (RX2, TX2, 6), (RX3, TX3, 4), (RX4, TX4, 2), (RX5, TX5, 4), (RX6, TX6, 9), (RX7, TX7, 10), (RX8, TX8, 33)]
end
section
set_option maxRecDepth 20000 in
theorem ggX0_init_X1_init : GoodIn wsX0_init wsX1_init := goodIn_r _ [15, 16, 2, 3, 12, 17, 18, 19, 41, 42, 43, 44, 45, 46, 47, 48] (by decide +kernel) (by decide +kernel)
set_option maxRecDepth 20000 in
theorem gX0_init_X1_init_n11 : GoodIn wsX0_init (wsX1_init) := ggX0_init_X1_init
set_option maxRecDepth 20000 in
theorem ggX0_init_X6_init : GoodIn wsX0_init wsX6_init := goodIn_r _ [22, 23, 2, 3, 12, 24, 25, 26, 27, 28, 29, 30, 31, 32, 33, 10, 34, 35, 36, 37, 38, 39, 40, 52, 53, 54, 55, 56, 57, 58, 59, 60] (by decide +kernel) (by decide +kernel)
set_option maxRecDepth 20000 in
theorem gX0_init_X6_init : GoodIn wsX0_init (wsX6_init) := ggX0_init_X6_init
theorem dX0_init_0 : decode cX0_init 0 = .ok (.aload_n 0, 1) := by decide +kernel
theorem dX0_init_1 : decode cX0_init 1 = .ok (.invokespecial 3, 3) := by decide +kernel
theorem dX0_init_4 : decode cX0_init 4 = .ok (.aload_n 0, 1) := by decide +kernel
theorem dX0_init_5 : decode cX0_init 5 = .ok (.new 9, 3) := by decide +kernel
theorem dX0_init_8 : decode cX0_init 8 = .ok (.dup, 1) := by decide +kernel
theorem dX0_init_9 : decode cX0_init 9 = .ok (.invokespecial 11, 3) := by decide +kernel
theorem dX0_init_12 : decode cX0_init 12 = .ok (.putfield 12, 3) := by decide +kernel
theorem dX0_init_15 : decode cX0_init 15 = .ok (.aload_n 0, 1) := by decide +kernel
theorem dX0_init_16 : decode cX0_init 16 = .ok (.new 18, 3) := by decide +kernel
theorem dX0_init_19 : decode cX0_init 19 = .ok (.dup, 1) := by decide +kernel
theorem dX0_init_20 : decode cX0_init 20 = .ok (.invokespecial 20, 3) := by decide +kernel
theorem dX0_init_23 : decode cX0_init 23 = .ok (.putfield 21, 3) := by decide +kernel
theorem dX0_init_26 : decode cX0_init 26 = .ok (.aload_n 0, 1) := by decide +kernel
theorem dX0_init_27 : decode cX0_init 27 = .ok (.bipush 48, 2) := by decide +kernel
theorem dX0_init_29 : decode cX0_init 29 = .ok (.newarray .int, 2) := by decide +kernel
theorem dX0_init_31 : decode cX0_init 31 = .ok (.putfield 25, 3) := by decide +kernel
theorem dX0_init_34 : decode cX0_init 34 = .ok (.return_, 1) := by decide +kernel
set_option maxRecDepth 20000 in
theorem ggX0_setOut_X1_copy : GoodIn wsX0_setOut wsX1_copy := goodIn_r _ [6, 7, 8, 9, 10, 11, 15, 16, 17, 18, 19, 20, 21, 22] (by decide +kernel) (by decide +kernel)
set_option maxRecDepth 20000 in
theorem gX0_setOut_X1_copy : GoodIn wsX0_setOut (wsV RX0 29 RX1 yX1_copy wsX1_copy) := goodIn_app (goodIn_of _ (by decide +kernel)) ggX0_setOut_X1_copy
theorem dX0_setOut_0 : decode cX0_setOut 0 = .ok (.aload_n 0, 1) := by decide +kernel
theorem dX0_setOut_1 : decode cX0_setOut 1 = .ok (.getfield 12, 3) := by decide +kernel
theorem dX0_setOut_4 : decode cX0_setOut 4 = .ok (.aload_n 1, 1) := by decide +kernel
theorem dX0_setOut_5 : decode cX0_setOut 5 = .ok (.invokevirtual 29, 3) := by decide +kernel
theorem dX0_setOut_8 : decode cX0_setOut 8 = .ok (.return_, 1) := by decide +kernel
set_option maxRecDepth 20000 in
theorem ggX0_goOn_X1_goBy : GoodIn wsX0_goOn wsX1_goBy := goodIn_r _ [6, 7, 8, 9, 10, 11, 12, 13, 14, 15, 16, 17, 18, 19, 20, 5, 21, 22, 23, 24, 25, 29, 30, 31, 32, 33, 34, 35, 36, 37, 38, 39, 40, 41, 42, 43, 44, 45] (by decide +kernel) (by decide +kernel)
set_option maxRecDepth 20000 in
theorem gX0_goOn_X1_goBy : GoodIn wsX0_goOn (wsV RX0 33 RX1 yX1_goBy wsX1_goBy) := goodIn_app (goodIn_of _ (by decide +kernel)) ggX0_goOn_X1_goBy
theorem dX0_goOn_0 : decode cX0_goOn 0 = .ok (.iconst 0, 1) := by decide +kernel
theorem dX0_goOn_1 : decode cX0_goOn 1 = .ok (.istore_n 3, 1) := by decide +kernel
theorem dX0_goOn_2 : decode cX0_goOn 2 = .ok (.iload_n 3, 1) := by decide +kernel
theorem dX0_goOn_3 : decode cX0_goOn 3 = .ok (.iload_n 2, 1) := by decide +kernel
theorem dX0_goOn_4 : decode cX0_goOn 4 = .ok (.if_icmp .ge 18, 3) := by decide +kernel
theorem dX0_goOn_7 : decode cX0_goOn 7 = .ok (.aload_n 0, 1) := by decide +kernel
theorem dX0_goOn_8 : decode cX0_goOn 8 = .ok (.getfield 12, 3) := by decide +kernel
theorem dX0_goOn_11 : decode cX0_goOn 11 = .ok (.aload_n 1, 1) := by decide +kernel
theorem dX0_goOn_12 : decode cX0_goOn 12 = .ok (.invokevirtual 33, 3) := by decide +kernel
theorem dX0_goOn_15 : decode cX0_goOn 15 = .ok (.pop, 1) := by decide +kernel
theorem dX0_goOn_16 : decode cX0_goOn 16 = .ok (.iinc 3 1, 3) := by decide +kernel
theorem dX0_goOn_19 : decode cX0_goOn 19 = .ok (.goto (-17), 3) := by decide +kernel
theorem dX0_goOn_22 : decode cX0_goOn 22 = .ok (.return_, 1) := by decide +kernel
set_option maxRecDepth 20000 in
theorem ggX0_hoursToRest_X0_isAsInRow : GoodIn wsX0_hoursToRest wsX0_isAsInRow := goodIn_r _ [9, 2, 3, 4, 43, 44, 45, 46, 47, 48, 49, 50, 51, 52, 53] (by decide +kernel) (by decide +kernel)
set_option maxRecDepth 20000 in
theorem gX0_hoursToRest_X0_isAsInRow : GoodIn wsX0_hoursToRest (wsV RX0 41 RX0 yX0_isAsInRow wsX0_isAsInRow) := goodIn_app (goodIn_of _ (by decide +kernel)) ggX0_hoursToRest_X0_isAsInRow
set_option maxRecDepth 20000 in
theorem ggX0_hoursToRest_X1_goBy : GoodIn wsX0_hoursToRest wsX1_goBy := goodIn_r _ [14, 15, 16, 17, 18, 19, 20, 21, 22, 23, 24, 25, 26, 27, 28, 13, 29, 30, 31, 32, 33, 46, 47, 48, 49, 50, 51, 52, 53, 34, 35, 36, 37, 38, 39, 40, 41, 42] (by decide +kernel) (by decide +kernel)
set_option maxRecDepth 20000 in
theorem gX0_hoursToRest_X1_goBy : GoodIn wsX0_hoursToRest (wsV RX0 33 RX1 yX1_goBy wsX1_goBy) := goodIn_app (goodIn_of _ (by decide +kernel)) ggX0_hoursToRest_X1_goBy
theorem dX0_hoursToRest_0 : decode cX0_hoursToRest 0 = .ok (.iconst 0, 1) := by decide +kernel
theorem dX0_hoursToRest_1 : decode cX0_hoursToRest 1 = .ok (.istore_n 2, 1) := by decide +kernel
theorem dX0_hoursToRest_2 : decode cX0_hoursToRest 2 = .ok (.iload_n 2, 1) := by decide +kernel
theorem dX0_hoursToRest_3 : decode cX0_hoursToRest 3 = .ok (.sipush 208, 3) := by decide +kernel
theorem dX0_hoursToRest_6 : decode cX0_hoursToRest 6 = .ok (.if_icmp .gt 86, 3) := by decide +kernel
theorem dX0_hoursToRest_9 : decode cX0_hoursToRest 9 = .ok (.iload_n 2, 1) := by decide +kernel
theorem dX0_hoursToRest_10 : decode cX0_hoursToRest 10 = .ok (.bipush 8, 2) := by decide +kernel
theorem dX0_hoursToRest_12 : decode cX0_hoursToRest 12 = .ok (.irem, 1) := by decide +kernel
theorem dX0_hoursToRest_13 : decode cX0_hoursToRest 13 = .ok (.bipush 6, 2) := by decide +kernel
theorem dX0_hoursToRest_15 : decode cX0_hoursToRest 15 = .ok (.imul, 1) := by decide +kernel
theorem dX0_hoursToRest_16 : decode cX0_hoursToRest 16 = .ok (.istore_n 3, 1) := by decide +kernel
theorem dX0_hoursToRest_17 : decode cX0_hoursToRest 17 = .ok (.iload_n 2, 1) := by decide +kernel
theorem dX0_hoursToRest_18 : decode cX0_hoursToRest 18 = .ok (.bipush 8, 2) := by decide +kernel
theorem dX0_hoursToRest_20 : decode cX0_hoursToRest 20 = .ok (.if_icmp .lt 20, 3) := by decide +kernel
theorem dX0_hoursToRest_23 : decode cX0_hoursToRest 23 = .ok (.aload_n 0, 1) := by decide +kernel
theorem dX0_hoursToRest_24 : decode cX0_hoursToRest 24 = .ok (.iload_n 3, 1) := by decide +kernel
theorem dX0_hoursToRest_25 : decode cX0_hoursToRest 25 = .ok (.aload_n 1, 1) := by decide +kernel
theorem dX0_hoursToRest_26 : decode cX0_hoursToRest 26 = .ok (.getfield 37, 3) := by decide +kernel
theorem dX0_hoursToRest_29 : decode cX0_hoursToRest 29 = .ok (.invokevirtual 41, 3) := by decide +kernel
theorem dX0_hoursToRest_32 : decode cX0_hoursToRest 32 = .ok (.ifCond .eq 8, 3) := by decide +kernel
theorem dX0_hoursToRest_35 : decode cX0_hoursToRest 35 = .ok (.iload_n 2, 1) := by decide +kernel
theorem dX0_hoursToRest_36 : decode cX0_hoursToRest 36 = .ok (.bipush 8, 2) := by decide +kernel
theorem dX0_hoursToRest_38 : decode cX0_hoursToRest 38 = .ok (.isub, 1) := by decide +kernel
theorem dX0_hoursToRest_39 : decode cX0_hoursToRest 39 = .ok (.ireturn, 1) := by decide +kernel
theorem dX0_hoursToRest_40 : decode cX0_hoursToRest 40 = .ok (.iconst 0, 1) := by decide +kernel
theorem dX0_hoursToRest_41 : decode cX0_hoursToRest 41 = .ok (.istore 4, 2) := by decide +kernel
theorem dX0_hoursToRest_43 : decode cX0_hoursToRest 43 = .ok (.iload 4, 2) := by decide +kernel
theorem dX0_hoursToRest_45 : decode cX0_hoursToRest 45 = .ok (.aload_n 1, 1) := by decide +kernel
theorem dX0_hoursToRest_46 : decode cX0_hoursToRest 46 = .ok (.getfield 37, 3) := by decide +kernel
theorem dX0_hoursToRest_49 : decode cX0_hoursToRest 49 = .ok (.if_icmp .ge 28, 3) := by decide +kernel
theorem dX0_hoursToRest_52 : decode cX0_hoursToRest 52 = .ok (.aload_n 0, 1) := by decide +kernel
theorem dX0_hoursToRest_53 : decode cX0_hoursToRest 53 = .ok (.getfield 25, 3) := by decide +kernel
theorem dX0_hoursToRest_56 : decode cX0_hoursToRest 56 = .ok (.iload_n 3, 1) := by decide +kernel
theorem dX0_hoursToRest_57 : decode cX0_hoursToRest 57 = .ok (.iload 4, 2) := by decide +kernel
theorem dX0_hoursToRest_59 : decode cX0_hoursToRest 59 = .ok (.iadd, 1) := by decide +kernel
theorem dX0_hoursToRest_60 : decode cX0_hoursToRest 60 = .ok (.aload_n 0, 1) := by decide +kernel
theorem dX0_hoursToRest_61 : decode cX0_hoursToRest 61 = .ok (.getfield 12, 3) := by decide +kernel
theorem dX0_hoursToRest_64 : decode cX0_hoursToRest 64 = .ok (.getfield 45, 3) := by decide +kernel
theorem dX0_hoursToRest_67 : decode cX0_hoursToRest 67 = .ok (.iload 4, 2) := by decide +kernel
theorem dX0_hoursToRest_69 : decode cX0_hoursToRest 69 = .ok (.iaload, 1) := by decide +kernel
theorem dX0_hoursToRest_70 : decode cX0_hoursToRest 70 = .ok (.iastore, 1) := by decide +kernel
theorem dX0_hoursToRest_71 : decode cX0_hoursToRest 71 = .ok (.iinc 4 1, 3) := by decide +kernel
theorem dX0_hoursToRest_74 : decode cX0_hoursToRest 74 = .ok (.goto (-31), 3) := by decide +kernel
theorem dX0_hoursToRest_77 : decode cX0_hoursToRest 77 = .ok (.aload_n 0, 1) := by decide +kernel
theorem dX0_hoursToRest_78 : decode cX0_hoursToRest 78 = .ok (.getfield 12, 3) := by decide +kernel
theorem dX0_hoursToRest_81 : decode cX0_hoursToRest 81 = .ok (.aload_n 1, 1) := by decide +kernel
theorem dX0_hoursToRest_82 : decode cX0_hoursToRest 82 = .ok (.invokevirtual 33, 3) := by decide +kernel
theorem dX0_hoursToRest_85 : decode cX0_hoursToRest 85 = .ok (.pop, 1) := by decide +kernel
theorem dX0_hoursToRest_86 : decode cX0_hoursToRest 86 = .ok (.iinc 2 1, 3) := by decide +kernel
theorem dX0_hoursToRest_89 : decode cX0_hoursToRest 89 = .ok (.goto (-87), 3) := by decide +kernel
theorem dX0_hoursToRest_92 : decode cX0_hoursToRest 92 = .ok (.bipush (-9), 2) := by decide +kernel
theorem dX0_hoursToRest_94 : decode cX0_hoursToRest 94 = .ok (.ireturn, 1) := by decide +kernel
theorem dX0_isAsInRow_0 : decode cX0_isAsInRow 0 = .ok (.iconst 0, 1) := by decide +kernel
theorem dX0_isAsInRow_1 : decode cX0_isAsInRow 1 = .ok (.istore_n 3, 1) := by decide +kernel
theorem dX0_isAsInRow_2 : decode cX0_isAsInRow 2 = .ok (.iload_n 3, 1) := by decide +kernel
theorem dX0_isAsInRow_3 : decode cX0_isAsInRow 3 = .ok (.iload_n 2, 1) := by decide +kernel
theorem dX0_isAsInRow_4 : decode cX0_isAsInRow 4 = .ok (.if_icmp .ge 31, 3) := by decide +kernel
theorem dX0_isAsInRow_7 : decode cX0_isAsInRow 7 = .ok (.aload_n 0, 1) := by decide +kernel
theorem dX0_isAsInRow_8 : decode cX0_isAsInRow 8 = .ok (.getfield 25, 3) := by decide +kernel
theorem dX0_isAsInRow_11 : decode cX0_isAsInRow 11 = .ok (.iload_n 1, 1) := by decide +kernel
theorem dX0_isAsInRow_12 : decode cX0_isAsInRow 12 = .ok (.iload_n 3, 1) := by decide +kernel
theorem dX0_isAsInRow_13 : decode cX0_isAsInRow 13 = .ok (.iadd, 1) := by decide +kernel
theorem dX0_isAsInRow_14 : decode cX0_isAsInRow 14 = .ok (.iaload, 1) := by decide +kernel
theorem dX0_isAsInRow_15 : decode cX0_isAsInRow 15 = .ok (.aload_n 0, 1) := by decide +kernel
theorem dX0_isAsInRow_16 : decode cX0_isAsInRow 16 = .ok (.getfield 12, 3) := by decide +kernel
theorem dX0_isAsInRow_19 : decode cX0_isAsInRow 19 = .ok (.getfield 45, 3) := by decide +kernel
theorem dX0_isAsInRow_22 : decode cX0_isAsInRow 22 = .ok (.iload_n 3, 1) := by decide +kernel
theorem dX0_isAsInRow_23 : decode cX0_isAsInRow 23 = .ok (.iaload, 1) := by decide +kernel
theorem dX0_isAsInRow_24 : decode cX0_isAsInRow 24 = .ok (.if_icmp .eq 5, 3) := by decide +kernel
theorem dX0_isAsInRow_27 : decode cX0_isAsInRow 27 = .ok (.iconst 0, 1) := by decide +kernel
theorem dX0_isAsInRow_28 : decode cX0_isAsInRow 28 = .ok (.ireturn, 1) := by decide +kernel
theorem dX0_isAsInRow_29 : decode cX0_isAsInRow 29 = .ok (.iinc 3 1, 3) := by decide +kernel
theorem dX0_isAsInRow_32 : decode cX0_isAsInRow 32 = .ok (.goto (-30), 3) := by decide +kernel
theorem dX0_isAsInRow_35 : decode cX0_isAsInRow 35 = .ok (.iconst 1, 1) := by decide +kernel
theorem dX0_isAsInRow_36 : decode cX0_isAsInRow 36 = .ok (.ireturn, 1) := by decide +kernel
set_option maxRecDepth 20000 in
theorem ggX0_warmestIfShut_X0_setOut : GoodIn wsX0_warmestIfShut wsX0_setOut := goodIn_r _ [8, 1, 9, 10, 11, 12, 13, 14, 15, 16, 17, 18, 49, 50, 51, 52, 53, 54, 55, 56, 57, 58, 59] (by decide +kernel) (by decide +kernel)
set_option maxRecDepth 20000 in
theorem gX0_warmestIfShut_X0_setOut : GoodIn wsX0_warmestIfShut (wsV RX0 48 RX0 yX0_setOut wsX0_setOut) := goodIn_app (goodIn_of _ (by decide +kernel)) ggX0_warmestIfShut_X0_setOut
set_option maxRecDepth 20000 in
theorem ggX0_warmestIfShut_X0_goOn : GoodIn wsX0_warmestIfShut wsX0_goOn := goodIn_r _ [22, 1, 23, 24, 25, 12, 26, 14, 27, 28, 18, 29, 30, 31, 17, 32, 33, 34, 35, 36, 37, 38, 15, 39, 40, 16, 49, 50, 51, 52, 53, 54, 55, 56, 57, 58, 59, 60, 61, 62, 63, 64, 65, 66, 67, 68] (by decide +kernel) (by decide +kernel)
set_option maxRecDepth 20000 in
theorem gX0_warmestIfShut_X0_goOn : GoodIn wsX0_warmestIfShut (wsV RX0 54 RX0 yX0_goOn wsX0_goOn) := goodIn_app (goodIn_of _ (by decide +kernel)) ggX0_warmestIfShut_X0_goOn
set_option maxRecDepth 20000 in
theorem ggX0_warmestIfShut_X1_warmthOfWarmest : GoodIn wsX0_warmestIfShut wsX1_warmthOfWarmest := goodIn_r _ [44, 18, 45, 46, 47, 48, 52, 53, 54, 55, 56, 57, 58, 59] (by decide +kernel) (by decide +kernel)
set_option maxRecDepth 20000 in
theorem gX0_warmestIfShut_X1_warmthOfWarmest : GoodIn wsX0_warmestIfShut (wsV RX0 58 RX1 yX1_warmthOfWarmest wsX1_warmthOfWarmest) := goodIn_app (goodIn_of _ (by decide +kernel)) ggX0_warmestIfShut_X1_warmthOfWarmest
theorem dX0_warmestIfShut_0 : decode cX0_warmestIfShut 0 = .ok (.aload_n 0, 1) := by decide +kernel
theorem dX0_warmestIfShut_1 : decode cX0_warmestIfShut 1 = .ok (.aload_n 1, 1) := by decide +kernel
theorem dX0_warmestIfShut_2 : decode cX0_warmestIfShut 2 = .ok (.invokevirtual 48, 3) := by decide +kernel
theorem dX0_warmestIfShut_5 : decode cX0_warmestIfShut 5 = .ok (.aload_n 0, 1) := by decide +kernel
theorem dX0_warmestIfShut_6 : decode cX0_warmestIfShut 6 = .ok (.getfield 12, 3) := by decide +kernel
theorem dX0_warmestIfShut_9 : decode cX0_warmestIfShut 9 = .ok (.iload_n 3, 1) := by decide +kernel
theorem dX0_warmestIfShut_10 : decode cX0_warmestIfShut 10 = .ok (.putfield 51, 3) := by decide +kernel
theorem dX0_warmestIfShut_13 : decode cX0_warmestIfShut 13 = .ok (.aload_n 0, 1) := by decide +kernel
theorem dX0_warmestIfShut_14 : decode cX0_warmestIfShut 14 = .ok (.aload_n 2, 1) := by decide +kernel
theorem dX0_warmestIfShut_15 : decode cX0_warmestIfShut 15 = .ok (.iload 4, 2) := by decide +kernel
theorem dX0_warmestIfShut_17 : decode cX0_warmestIfShut 17 = .ok (.invokevirtual 54, 3) := by decide +kernel
theorem dX0_warmestIfShut_20 : decode cX0_warmestIfShut 20 = .ok (.aload_n 0, 1) := by decide +kernel
theorem dX0_warmestIfShut_21 : decode cX0_warmestIfShut 21 = .ok (.getfield 12, 3) := by decide +kernel
theorem dX0_warmestIfShut_24 : decode cX0_warmestIfShut 24 = .ok (.aload_n 2, 1) := by decide +kernel
theorem dX0_warmestIfShut_25 : decode cX0_warmestIfShut 25 = .ok (.getfield 37, 3) := by decide +kernel
theorem dX0_warmestIfShut_28 : decode cX0_warmestIfShut 28 = .ok (.invokevirtual 58, 3) := by decide +kernel
theorem dX0_warmestIfShut_31 : decode cX0_warmestIfShut 31 = .ok (.ireturn, 1) := by decide +kernel
set_option maxRecDepth 20000 in
theorem ggX0_warmthIfMirrors_X0_setOut : GoodIn wsX0_warmthIfMirrors wsX0_setOut := goodIn_r _ [8, 1, 9, 10, 11, 12, 13, 14, 15, 16, 17, 18, 41, 42, 43, 44, 45, 46, 47, 48, 49, 50, 51] (by decide +kernel) (by decide +kernel)
set_option maxRecDepth 20000 in
theorem gX0_warmthIfMirrors_X0_setOut : GoodIn wsX0_warmthIfMirrors (wsV RX0 48 RX0 yX0_setOut wsX0_setOut) := goodIn_app (goodIn_of _ (by decide +kernel)) ggX0_warmthIfMirrors_X0_setOut
set_option maxRecDepth 20000 in
theorem ggX0_warmthIfMirrors_X0_goOn : GoodIn wsX0_warmthIfMirrors wsX0_goOn := goodIn_r _ [22, 1, 23, 24, 25, 12, 26, 14, 27, 28, 18, 29, 30, 31, 17, 32, 33, 34, 35, 36, 37, 38, 15, 39, 40, 16, 41, 42, 43, 44, 45, 46, 47, 48, 49, 50, 51, 52, 53, 54, 55, 56, 57, 58, 59, 60] (by decide +kernel) (by decide +kernel)
set_option maxRecDepth 20000 in
theorem gX0_warmthIfMirrors_X0_goOn : GoodIn wsX0_warmthIfMirrors (wsV RX0 54 RX0 yX0_goOn wsX0_goOn) := goodIn_app (goodIn_of _ (by decide +kernel)) ggX0_warmthIfMirrors_X0_goOn
theorem dX0_warmthIfMirrors_0 : decode cX0_warmthIfMirrors 0 = .ok (.aload_n 0, 1) := by decide +kernel
theorem dX0_warmthIfMirrors_1 : decode cX0_warmthIfMirrors 1 = .ok (.aload_n 1, 1) := by decide +kernel
theorem dX0_warmthIfMirrors_2 : decode cX0_warmthIfMirrors 2 = .ok (.invokevirtual 48, 3) := by decide +kernel
theorem dX0_warmthIfMirrors_5 : decode cX0_warmthIfMirrors 5 = .ok (.aload_n 0, 1) := by decide +kernel
theorem dX0_warmthIfMirrors_6 : decode cX0_warmthIfMirrors 6 = .ok (.getfield 12, 3) := by decide +kernel
theorem dX0_warmthIfMirrors_9 : decode cX0_warmthIfMirrors 9 = .ok (.dup, 1) := by decide +kernel
theorem dX0_warmthIfMirrors_10 : decode cX0_warmthIfMirrors 10 = .ok (.getfield 62, 3) := by decide +kernel
theorem dX0_warmthIfMirrors_13 : decode cX0_warmthIfMirrors 13 = .ok (.iload_n 3, 1) := by decide +kernel
theorem dX0_warmthIfMirrors_14 : decode cX0_warmthIfMirrors 14 = .ok (.ior, 1) := by decide +kernel
theorem dX0_warmthIfMirrors_15 : decode cX0_warmthIfMirrors 15 = .ok (.putfield 62, 3) := by decide +kernel
theorem dX0_warmthIfMirrors_18 : decode cX0_warmthIfMirrors 18 = .ok (.aload_n 0, 1) := by decide +kernel
theorem dX0_warmthIfMirrors_19 : decode cX0_warmthIfMirrors 19 = .ok (.aload_n 2, 1) := by decide +kernel
theorem dX0_warmthIfMirrors_20 : decode cX0_warmthIfMirrors 20 = .ok (.iload 4, 2) := by decide +kernel
theorem dX0_warmthIfMirrors_22 : decode cX0_warmthIfMirrors 22 = .ok (.invokevirtual 54, 3) := by decide +kernel
theorem dX0_warmthIfMirrors_25 : decode cX0_warmthIfMirrors 25 = .ok (.aload_n 0, 1) := by decide +kernel
theorem dX0_warmthIfMirrors_26 : decode cX0_warmthIfMirrors 26 = .ok (.getfield 12, 3) := by decide +kernel
theorem dX0_warmthIfMirrors_29 : decode cX0_warmthIfMirrors 29 = .ok (.getfield 45, 3) := by decide +kernel
theorem dX0_warmthIfMirrors_32 : decode cX0_warmthIfMirrors 32 = .ok (.iload 5, 2) := by decide +kernel
theorem dX0_warmthIfMirrors_34 : decode cX0_warmthIfMirrors 34 = .ok (.iaload, 1) := by decide +kernel
theorem dX0_warmthIfMirrors_35 : decode cX0_warmthIfMirrors 35 = .ok (.ireturn, 1) := by decide +kernel
set_option maxRecDepth 20000 in
theorem ggX0_staysCool_X0_setOut : GoodIn wsX0_staysCool wsX0_setOut := goodIn_r _ [7, 1, 8, 9, 10, 11, 12, 13, 14, 15, 16, 17, 41, 42, 43, 44, 45, 46, 47, 48, 49, 50, 51] (by decide +kernel) (by decide +kernel)
set_option maxRecDepth 20000 in
theorem gX0_staysCool_X0_setOut : GoodIn wsX0_staysCool (wsV RX0 48 RX0 yX0_setOut wsX0_setOut) := goodIn_app (goodIn_of _ (by decide +kernel)) ggX0_staysCool_X0_setOut
set_option maxRecDepth 20000 in
theorem ggX0_staysCool_X1_goBy : GoodIn wsX0_staysCool wsX1_goBy := goodIn_r _ [21, 13, 22, 23, 17, 24, 25, 26, 16, 27, 28, 29, 30, 31, 32, 11, 33, 14, 34, 35, 15, 44, 45, 46, 47, 48, 49, 50, 51, 52, 53, 54, 55, 56, 57, 58, 59, 60] (by decide +kernel) (by decide +kernel)
set_option maxRecDepth 20000 in
theorem gX0_staysCool_X1_goBy : GoodIn wsX0_staysCool (wsV RX0 33 RX1 yX1_goBy wsX1_goBy) := goodIn_app (goodIn_of _ (by decide +kernel)) ggX0_staysCool_X1_goBy
set_option maxRecDepth 20000 in
theorem ggX0_staysCool_X1_tooWarm : GoodIn wsX0_staysCool wsX1_tooWarm := goodIn_r _ [39, 22, 17, 40, 52, 53, 54, 55, 56, 57, 58, 59, 60, 44, 45, 46, 47, 48, 49, 50, 51] (by decide +kernel) (by decide +kernel)
set_option maxRecDepth 20000 in
theorem gX0_staysCool_X1_tooWarm : GoodIn wsX0_staysCool (wsV RX0 65 RX1 yX1_tooWarm wsX1_tooWarm) := goodIn_app (goodIn_of _ (by decide +kernel)) ggX0_staysCool_X1_tooWarm
theorem dX0_staysCool_0 : decode cX0_staysCool 0 = .ok (.aload_n 0, 1) := by decide +kernel
theorem dX0_staysCool_1 : decode cX0_staysCool 1 = .ok (.aload_n 1, 1) := by decide +kernel
theorem dX0_staysCool_2 : decode cX0_staysCool 2 = .ok (.invokevirtual 48, 3) := by decide +kernel
theorem dX0_staysCool_5 : decode cX0_staysCool 5 = .ok (.iconst 0, 1) := by decide +kernel
theorem dX0_staysCool_6 : decode cX0_staysCool 6 = .ok (.istore_n 3, 1) := by decide +kernel
theorem dX0_staysCool_7 : decode cX0_staysCool 7 = .ok (.iload_n 3, 1) := by decide +kernel
theorem dX0_staysCool_8 : decode cX0_staysCool 8 = .ok (.iload_n 2, 1) := by decide +kernel
theorem dX0_staysCool_9 : decode cX0_staysCool 9 = .ok (.if_icmp .ge 37, 3) := by decide +kernel
theorem dX0_staysCool_12 : decode cX0_staysCool 12 = .ok (.aload_n 0, 1) := by decide +kernel
theorem dX0_staysCool_13 : decode cX0_staysCool 13 = .ok (.getfield 12, 3) := by decide +kernel
theorem dX0_staysCool_16 : decode cX0_staysCool 16 = .ok (.aload_n 0, 1) := by decide +kernel
theorem dX0_staysCool_17 : decode cX0_staysCool 17 = .ok (.getfield 21, 3) := by decide +kernel
theorem dX0_staysCool_20 : decode cX0_staysCool 20 = .ok (.invokevirtual 33, 3) := by decide +kernel
theorem dX0_staysCool_23 : decode cX0_staysCool 23 = .ok (.pop, 1) := by decide +kernel
theorem dX0_staysCool_24 : decode cX0_staysCool 24 = .ok (.aload_n 0, 1) := by decide +kernel
theorem dX0_staysCool_25 : decode cX0_staysCool 25 = .ok (.getfield 12, 3) := by decide +kernel
theorem dX0_staysCool_28 : decode cX0_staysCool 28 = .ok (.aload_n 0, 1) := by decide +kernel
theorem dX0_staysCool_29 : decode cX0_staysCool 29 = .ok (.getfield 21, 3) := by decide +kernel
theorem dX0_staysCool_32 : decode cX0_staysCool 32 = .ok (.invokevirtual 65, 3) := by decide +kernel
theorem dX0_staysCool_35 : decode cX0_staysCool 35 = .ok (.ifCond .eq 5, 3) := by decide +kernel
theorem dX0_staysCool_38 : decode cX0_staysCool 38 = .ok (.iconst 0, 1) := by decide +kernel
theorem dX0_staysCool_39 : decode cX0_staysCool 39 = .ok (.ireturn, 1) := by decide +kernel
theorem dX0_staysCool_40 : decode cX0_staysCool 40 = .ok (.iinc 3 1, 3) := by decide +kernel
theorem dX0_staysCool_43 : decode cX0_staysCool 43 = .ok (.goto (-36), 3) := by decide +kernel
theorem dX0_staysCool_46 : decode cX0_staysCool 46 = .ok (.iconst 1, 1) := by decide +kernel
theorem dX0_staysCool_47 : decode cX0_staysCool 47 = .ok (.ireturn, 1) := by decide +kernel
set_option maxRecDepth 20000 in
theorem ggX0_allSeenIsSo_X1_begin : GoodIn wsX0_allSeenIsSo wsX1_begin := goodIn_r _ [7, 8, 9, 10, 11, 12, 13, 14, 54, 55, 56, 57, 58, 59, 60, 61, 62, 63, 64, 65, 66, 67, 68, 69, 70] (by decide +kernel) (by decide +kernel)
set_option maxRecDepth 20000 in
theorem gX0_allSeenIsSo_X1_begin : GoodIn wsX0_allSeenIsSo (wsV RX0 68 RX1 yX1_begin wsX1_begin) := goodIn_app (goodIn_of _ (by decide +kernel)) ggX0_allSeenIsSo_X1_begin
set_option maxRecDepth 20000 in
theorem ggX0_allSeenIsSo_X3_latest : GoodIn wsX0_allSeenIsSo wsX3_latest := goodIn_r _ [19, 20, 21, 22, 23, 24, 25, 71, 72, 73, 74] (by decide +kernel) (by decide +kernel)
set_option maxRecDepth 20000 in
theorem gX0_allSeenIsSo_X3_latest : GoodIn wsX0_allSeenIsSo (wsV RX0 72 RX3 yX3_latest wsX3_latest) := goodIn_app (goodIn_of _ (by decide +kernel)) ggX0_allSeenIsSo_X3_latest
set_option maxRecDepth 20000 in
theorem ggX0_allSeenIsSo_X3_areSo : GoodIn wsX0_allSeenIsSo wsX3_areSo := goodIn_r _ [29, 20, 21, 30, 31, 32, 71, 72, 73, 74, 54, 55, 56, 57, 58, 59, 60, 61] (by decide +kernel) (by decide +kernel)
set_option maxRecDepth 20000 in
theorem gX0_allSeenIsSo_X3_areSo : GoodIn wsX0_allSeenIsSo (wsV RX0 78 RX3 yX3_areSo wsX3_areSo) := goodIn_app (goodIn_of _ (by decide +kernel)) ggX0_allSeenIsSo_X3_areSo
set_option maxRecDepth 20000 in
theorem ggX0_allSeenIsSo_X1_goBy : GoodIn wsX0_allSeenIsSo wsX1_goBy := goodIn_r _ [36, 8, 37, 38, 13, 39, 40, 41, 11, 42, 43, 44, 45, 46, 47, 6, 48, 9, 49, 50, 10, 54, 55, 56, 57, 58, 59, 60, 61, 62, 63, 64, 65, 66, 67, 68, 69, 70] (by decide +kernel) (by decide +kernel)
set_option maxRecDepth 20000 in
theorem gX0_allSeenIsSo_X1_goBy : GoodIn wsX0_allSeenIsSo (wsV RX0 33 RX1 yX1_goBy wsX1_goBy) := goodIn_app (goodIn_of _ (by decide +kernel)) ggX0_allSeenIsSo_X1_goBy
theorem dX0_allSeenIsSo_0 : decode cX0_allSeenIsSo 0 = .ok (.aload_n 0, 1) := by decide +kernel
theorem dX0_allSeenIsSo_1 : decode cX0_allSeenIsSo 1 = .ok (.getfield 12, 3) := by decide +kernel
theorem dX0_allSeenIsSo_4 : decode cX0_allSeenIsSo 4 = .ok (.aload_n 0, 1) := by decide +kernel
theorem dX0_allSeenIsSo_5 : decode cX0_allSeenIsSo 5 = .ok (.getfield 21, 3) := by decide +kernel
theorem dX0_allSeenIsSo_8 : decode cX0_allSeenIsSo 8 = .ok (.invokevirtual 68, 3) := by decide +kernel
theorem dX0_allSeenIsSo_11 : decode cX0_allSeenIsSo 11 = .ok (.aload_n 1, 1) := by decide +kernel
theorem dX0_allSeenIsSo_12 : decode cX0_allSeenIsSo 12 = .ok (.invokevirtual 72, 3) := by decide +kernel
theorem dX0_allSeenIsSo_15 : decode cX0_allSeenIsSo 15 = .ok (.istore_n 2, 1) := by decide +kernel
theorem dX0_allSeenIsSo_16 : decode cX0_allSeenIsSo 16 = .ok (.iconst 0, 1) := by decide +kernel
theorem dX0_allSeenIsSo_17 : decode cX0_allSeenIsSo 17 = .ok (.istore_n 3, 1) := by decide +kernel
theorem dX0_allSeenIsSo_18 : decode cX0_allSeenIsSo 18 = .ok (.iload_n 3, 1) := by decide +kernel
theorem dX0_allSeenIsSo_19 : decode cX0_allSeenIsSo 19 = .ok (.iload_n 2, 1) := by decide +kernel
theorem dX0_allSeenIsSo_20 : decode cX0_allSeenIsSo 20 = .ok (.if_icmp .gt 35, 3) := by decide +kernel
theorem dX0_allSeenIsSo_23 : decode cX0_allSeenIsSo 23 = .ok (.aload_n 1, 1) := by decide +kernel
theorem dX0_allSeenIsSo_24 : decode cX0_allSeenIsSo 24 = .ok (.iload_n 3, 1) := by decide +kernel
theorem dX0_allSeenIsSo_25 : decode cX0_allSeenIsSo 25 = .ok (.aload_n 0, 1) := by decide +kernel
theorem dX0_allSeenIsSo_26 : decode cX0_allSeenIsSo 26 = .ok (.getfield 12, 3) := by decide +kernel
theorem dX0_allSeenIsSo_29 : decode cX0_allSeenIsSo 29 = .ok (.invokevirtual 78, 3) := by decide +kernel
theorem dX0_allSeenIsSo_32 : decode cX0_allSeenIsSo 32 = .ok (.ifCond .ne 5, 3) := by decide +kernel
theorem dX0_allSeenIsSo_35 : decode cX0_allSeenIsSo 35 = .ok (.iconst 0, 1) := by decide +kernel
theorem dX0_allSeenIsSo_36 : decode cX0_allSeenIsSo 36 = .ok (.ireturn, 1) := by decide +kernel
theorem dX0_allSeenIsSo_37 : decode cX0_allSeenIsSo 37 = .ok (.aload_n 0, 1) := by decide +kernel
theorem dX0_allSeenIsSo_38 : decode cX0_allSeenIsSo 38 = .ok (.getfield 12, 3) := by decide +kernel
theorem dX0_allSeenIsSo_41 : decode cX0_allSeenIsSo 41 = .ok (.aload_n 0, 1) := by decide +kernel
theorem dX0_allSeenIsSo_42 : decode cX0_allSeenIsSo 42 = .ok (.getfield 21, 3) := by decide +kernel
theorem dX0_allSeenIsSo_45 : decode cX0_allSeenIsSo 45 = .ok (.invokevirtual 33, 3) := by decide +kernel
theorem dX0_allSeenIsSo_48 : decode cX0_allSeenIsSo 48 = .ok (.pop, 1) := by decide +kernel
theorem dX0_allSeenIsSo_49 : decode cX0_allSeenIsSo 49 = .ok (.iinc 3 1, 3) := by decide +kernel
theorem dX0_allSeenIsSo_52 : decode cX0_allSeenIsSo 52 = .ok (.goto (-34), 3) := by decide +kernel
theorem dX0_allSeenIsSo_55 : decode cX0_allSeenIsSo 55 = .ok (.iconst 1, 1) := by decide +kernel
theorem dX0_allSeenIsSo_56 : decode cX0_allSeenIsSo 56 = .ok (.ireturn, 1) := by decide +kernel
theorem dX1_init_0 : decode cX1_init 0 = .ok (.aload_n 0, 1) := by decide +kernel
theorem dX1_init_1 : decode cX1_init 1 = .ok (.invokespecial 3, 3) := by decide +kernel
theorem dX1_init_4 : decode cX1_init 4 = .ok (.aload_n 0, 1) := by decide +kernel
theorem dX1_init_5 : decode cX1_init 5 = .ok (.bipush 6, 2) := by decide +kernel
theorem dX1_init_7 : decode cX1_init 7 = .ok (.newarray .int, 2) := by decide +kernel
theorem dX1_init_9 : decode cX1_init 9 = .ok (.putfield 9, 3) := by decide +kernel
theorem dX1_init_12 : decode cX1_init 12 = .ok (.aload_n 0, 1) := by decide +kernel
theorem dX1_init_13 : decode cX1_init 13 = .ok (.bipush 6, 2) := by decide +kernel
theorem dX1_init_15 : decode cX1_init 15 = .ok (.newarray .int, 2) := by decide +kernel
theorem dX1_init_17 : decode cX1_init 17 = .ok (.putfield 15, 3) := by decide +kernel
theorem dX1_init_20 : decode cX1_init 20 = .ok (.aload_n 0, 1) := by decide +kernel
theorem dX1_init_21 : decode cX1_init 21 = .ok (.bipush 10, 2) := by decide +kernel
theorem dX1_init_23 : decode cX1_init 23 = .ok (.newarray .int, 2) := by decide +kernel
theorem dX1_init_25 : decode cX1_init 25 = .ok (.putfield 18, 3) := by decide +kernel
theorem dX1_init_28 : decode cX1_init 28 = .ok (.return_, 1) := by decide +kernel
theorem dX1_begin_0 : decode cX1_begin 0 = .ok (.aload_n 0, 1) := by decide +kernel
theorem dX1_begin_1 : decode cX1_begin 1 = .ok (.iconst 0, 1) := by decide +kernel
theorem dX1_begin_2 : decode cX1_begin 2 = .ok (.putfield 21, 3) := by decide +kernel
theorem dX1_begin_5 : decode cX1_begin 5 = .ok (.aload_n 0, 1) := by decide +kernel
theorem dX1_begin_6 : decode cX1_begin 6 = .ok (.iconst 0, 1) := by decide +kernel
theorem dX1_begin_7 : decode cX1_begin 7 = .ok (.putfield 25, 3) := by decide +kernel
theorem dX1_begin_10 : decode cX1_begin 10 = .ok (.aload_n 0, 1) := by decide +kernel
theorem dX1_begin_11 : decode cX1_begin 11 = .ok (.iconst 0, 1) := by decide +kernel
theorem dX1_begin_12 : decode cX1_begin 12 = .ok (.putfield 28, 3) := by decide +kernel
theorem dX1_begin_15 : decode cX1_begin 15 = .ok (.aload_n 0, 1) := by decide +kernel
theorem dX1_begin_16 : decode cX1_begin 16 = .ok (.iconst 0, 1) := by decide +kernel
theorem dX1_begin_17 : decode cX1_begin 17 = .ok (.putfield 31, 3) := by decide +kernel
theorem dX1_begin_20 : decode cX1_begin 20 = .ok (.aload_n 0, 1) := by decide +kernel
theorem dX1_begin_21 : decode cX1_begin 21 = .ok (.iconst 0, 1) := by decide +kernel
theorem dX1_begin_22 : decode cX1_begin 22 = .ok (.putfield 34, 3) := by decide +kernel
theorem dX1_begin_25 : decode cX1_begin 25 = .ok (.iconst 0, 1) := by decide +kernel
theorem dX1_begin_26 : decode cX1_begin 26 = .ok (.istore_n 2, 1) := by decide +kernel
theorem dX1_begin_27 : decode cX1_begin 27 = .ok (.iload_n 2, 1) := by decide +kernel
theorem dX1_begin_28 : decode cX1_begin 28 = .ok (.bipush 6, 2) := by decide +kernel
theorem dX1_begin_30 : decode cX1_begin 30 = .ok (.if_icmp .ge 21, 3) := by decide +kernel
theorem dX1_begin_33 : decode cX1_begin 33 = .ok (.aload_n 0, 1) := by decide +kernel
theorem dX1_begin_34 : decode cX1_begin 34 = .ok (.getfield 9, 3) := by decide +kernel
theorem dX1_begin_37 : decode cX1_begin 37 = .ok (.iload_n 2, 1) := by decide +kernel
theorem dX1_begin_38 : decode cX1_begin 38 = .ok (.aload_n 1, 1) := by decide +kernel
theorem dX1_begin_39 : decode cX1_begin 39 = .ok (.getfield 37, 3) := by decide +kernel
theorem dX1_begin_42 : decode cX1_begin 42 = .ok (.iload_n 2, 1) := by decide +kernel
theorem dX1_begin_43 : decode cX1_begin 43 = .ok (.iaload, 1) := by decide +kernel
theorem dX1_begin_44 : decode cX1_begin 44 = .ok (.iastore, 1) := by decide +kernel
theorem dX1_begin_45 : decode cX1_begin 45 = .ok (.iinc 2 1, 3) := by decide +kernel
theorem dX1_begin_48 : decode cX1_begin 48 = .ok (.goto (-21), 3) := by decide +kernel
theorem dX1_begin_51 : decode cX1_begin 51 = .ok (.return_, 1) := by decide +kernel
theorem dX1_copy_0 : decode cX1_copy 0 = .ok (.aload_n 0, 1) := by decide +kernel
theorem dX1_copy_1 : decode cX1_copy 1 = .ok (.aload_n 1, 1) := by decide +kernel
theorem dX1_copy_2 : decode cX1_copy 2 = .ok (.getfield 21, 3) := by decide +kernel
theorem dX1_copy_5 : decode cX1_copy 5 = .ok (.putfield 21, 3) := by decide +kernel
theorem dX1_copy_8 : decode cX1_copy 8 = .ok (.aload_n 0, 1) := by decide +kernel
theorem dX1_copy_9 : decode cX1_copy 9 = .ok (.aload_n 1, 1) := by decide +kernel
theorem dX1_copy_10 : decode cX1_copy 10 = .ok (.getfield 25, 3) := by decide +kernel
theorem dX1_copy_13 : decode cX1_copy 13 = .ok (.putfield 25, 3) := by decide +kernel
theorem dX1_copy_16 : decode cX1_copy 16 = .ok (.aload_n 0, 1) := by decide +kernel
theorem dX1_copy_17 : decode cX1_copy 17 = .ok (.aload_n 1, 1) := by decide +kernel
theorem dX1_copy_18 : decode cX1_copy 18 = .ok (.getfield 28, 3) := by decide +kernel
theorem dX1_copy_21 : decode cX1_copy 21 = .ok (.putfield 28, 3) := by decide +kernel
theorem dX1_copy_24 : decode cX1_copy 24 = .ok (.aload_n 0, 1) := by decide +kernel
theorem dX1_copy_25 : decode cX1_copy 25 = .ok (.aload_n 1, 1) := by decide +kernel
theorem dX1_copy_26 : decode cX1_copy 26 = .ok (.getfield 31, 3) := by decide +kernel
theorem dX1_copy_29 : decode cX1_copy 29 = .ok (.putfield 31, 3) := by decide +kernel
theorem dX1_copy_32 : decode cX1_copy 32 = .ok (.iconst 0, 1) := by decide +kernel
theorem dX1_copy_33 : decode cX1_copy 33 = .ok (.istore_n 2, 1) := by decide +kernel
theorem dX1_copy_34 : decode cX1_copy 34 = .ok (.iload_n 2, 1) := by decide +kernel
theorem dX1_copy_35 : decode cX1_copy 35 = .ok (.bipush 6, 2) := by decide +kernel
theorem dX1_copy_37 : decode cX1_copy 37 = .ok (.if_icmp .ge 21, 3) := by decide +kernel
theorem dX1_copy_40 : decode cX1_copy 40 = .ok (.aload_n 0, 1) := by decide +kernel
theorem dX1_copy_41 : decode cX1_copy 41 = .ok (.getfield 9, 3) := by decide +kernel
theorem dX1_copy_44 : decode cX1_copy 44 = .ok (.iload_n 2, 1) := by decide +kernel
theorem dX1_copy_45 : decode cX1_copy 45 = .ok (.aload_n 1, 1) := by decide +kernel
theorem dX1_copy_46 : decode cX1_copy 46 = .ok (.getfield 9, 3) := by decide +kernel
theorem dX1_copy_49 : decode cX1_copy 49 = .ok (.iload_n 2, 1) := by decide +kernel
theorem dX1_copy_50 : decode cX1_copy 50 = .ok (.iaload, 1) := by decide +kernel
theorem dX1_copy_51 : decode cX1_copy 51 = .ok (.iastore, 1) := by decide +kernel
theorem dX1_copy_52 : decode cX1_copy 52 = .ok (.iinc 2 1, 3) := by decide +kernel
theorem dX1_copy_55 : decode cX1_copy 55 = .ok (.goto (-21), 3) := by decide +kernel
theorem dX1_copy_58 : decode cX1_copy 58 = .ok (.return_, 1) := by decide +kernel
set_option maxRecDepth 20000 in
theorem ggX1_copyWithChanges_X1_copy : GoodIn wsX1_copyWithChanges wsX1_copy := goodIn_r _ [7, 8, 9, 10, 11, 12, 13, 14, 15, 16, 17, 18, 19, 20] (by decide +kernel) (by decide +kernel)
set_option maxRecDepth 20000 in
theorem gX1_copyWithChanges_X1_copy : GoodIn wsX1_copyWithChanges (wsV RX1 40 RX1 yX1_copy wsX1_copy) := goodIn_app (goodIn_of _ (by decide +kernel)) ggX1_copyWithChanges_X1_copy
theorem dX1_copyWithChanges_0 : decode cX1_copyWithChanges 0 = .ok (.aload_n 0, 1) := by decide +kernel
theorem dX1_copyWithChanges_1 : decode cX1_copyWithChanges 1 = .ok (.aload_n 1, 1) := by decide +kernel
theorem dX1_copyWithChanges_2 : decode cX1_copyWithChanges 2 = .ok (.invokevirtual 40, 3) := by decide +kernel
theorem dX1_copyWithChanges_5 : decode cX1_copyWithChanges 5 = .ok (.aload_n 0, 1) := by decide +kernel
theorem dX1_copyWithChanges_6 : decode cX1_copyWithChanges 6 = .ok (.aload_n 1, 1) := by decide +kernel
theorem dX1_copyWithChanges_7 : decode cX1_copyWithChanges 7 = .ok (.getfield 34, 3) := by decide +kernel
theorem dX1_copyWithChanges_10 : decode cX1_copyWithChanges 10 = .ok (.putfield 34, 3) := by decide +kernel
theorem dX1_copyWithChanges_13 : decode cX1_copyWithChanges 13 = .ok (.iconst 0, 1) := by decide +kernel
theorem dX1_copyWithChanges_14 : decode cX1_copyWithChanges 14 = .ok (.istore_n 2, 1) := by decide +kernel
theorem dX1_copyWithChanges_15 : decode cX1_copyWithChanges 15 = .ok (.iload_n 2, 1) := by decide +kernel
theorem dX1_copyWithChanges_16 : decode cX1_copyWithChanges 16 = .ok (.bipush 10, 2) := by decide +kernel
theorem dX1_copyWithChanges_18 : decode cX1_copyWithChanges 18 = .ok (.if_icmp .ge 21, 3) := by decide +kernel
theorem dX1_copyWithChanges_21 : decode cX1_copyWithChanges 21 = .ok (.aload_n 0, 1) := by decide +kernel
theorem dX1_copyWithChanges_22 : decode cX1_copyWithChanges 22 = .ok (.getfield 18, 3) := by decide +kernel
theorem dX1_copyWithChanges_25 : decode cX1_copyWithChanges 25 = .ok (.iload_n 2, 1) := by decide +kernel
theorem dX1_copyWithChanges_26 : decode cX1_copyWithChanges 26 = .ok (.aload_n 1, 1) := by decide +kernel
theorem dX1_copyWithChanges_27 : decode cX1_copyWithChanges 27 = .ok (.getfield 18, 3) := by decide +kernel
theorem dX1_copyWithChanges_30 : decode cX1_copyWithChanges 30 = .ok (.iload_n 2, 1) := by decide +kernel
theorem dX1_copyWithChanges_31 : decode cX1_copyWithChanges 31 = .ok (.iaload, 1) := by decide +kernel
theorem dX1_copyWithChanges_32 : decode cX1_copyWithChanges 32 = .ok (.iastore, 1) := by decide +kernel
theorem dX1_copyWithChanges_33 : decode cX1_copyWithChanges 33 = .ok (.iinc 2 1, 3) := by decide +kernel
theorem dX1_copyWithChanges_36 : decode cX1_copyWithChanges 36 = .ok (.goto (-21), 3) := by decide +kernel
theorem dX1_copyWithChanges_39 : decode cX1_copyWithChanges 39 = .ok (.return_, 1) := by decide +kernel
set_option maxRecDepth 20000 in
theorem ggX1_change_X1_turn : GoodIn wsX1_change wsX1_turn := goodIn_r _ [7, 8, 9, 10, 11, 12, 13, 14, 15, 16, 17] (by decide +kernel) (by decide +kernel)
set_option maxRecDepth 20000 in
theorem gX1_change_X1_turn : GoodIn wsX1_change (wsV RX1 44 RX1 yX1_turn wsX1_turn) := goodIn_app (goodIn_of _ (by decide +kernel)) ggX1_change_X1_turn
theorem dX1_change_0 : decode cX1_change 0 = .ok (.aload_n 0, 1) := by decide +kernel
theorem dX1_change_1 : decode cX1_change 1 = .ok (.getfield 34, 3) := by decide +kernel
theorem dX1_change_4 : decode cX1_change 4 = .ok (.bipush 10, 2) := by decide +kernel
theorem dX1_change_6 : decode cX1_change 6 = .ok (.if_icmp .lt 37, 3) := by decide +kernel
theorem dX1_change_9 : decode cX1_change 9 = .ok (.iconst 1, 1) := by decide +kernel
theorem dX1_change_10 : decode cX1_change 10 = .ok (.istore_n 2, 1) := by decide +kernel
theorem dX1_change_11 : decode cX1_change 11 = .ok (.iload_n 2, 1) := by decide +kernel
theorem dX1_change_12 : decode cX1_change 12 = .ok (.bipush 10, 2) := by decide +kernel
theorem dX1_change_14 : decode cX1_change 14 = .ok (.if_icmp .ge 23, 3) := by decide +kernel
theorem dX1_change_17 : decode cX1_change 17 = .ok (.aload_n 0, 1) := by decide +kernel
theorem dX1_change_18 : decode cX1_change 18 = .ok (.getfield 18, 3) := by decide +kernel
theorem dX1_change_21 : decode cX1_change 21 = .ok (.iload_n 2, 1) := by decide +kernel
theorem dX1_change_22 : decode cX1_change 22 = .ok (.iconst 1, 1) := by decide +kernel
theorem dX1_change_23 : decode cX1_change 23 = .ok (.isub, 1) := by decide +kernel
theorem dX1_change_24 : decode cX1_change 24 = .ok (.aload_n 0, 1) := by decide +kernel
theorem dX1_change_25 : decode cX1_change 25 = .ok (.getfield 18, 3) := by decide +kernel
theorem dX1_change_28 : decode cX1_change 28 = .ok (.iload_n 2, 1) := by decide +kernel
theorem dX1_change_29 : decode cX1_change 29 = .ok (.iaload, 1) := by decide +kernel
theorem dX1_change_30 : decode cX1_change 30 = .ok (.iastore, 1) := by decide +kernel
theorem dX1_change_31 : decode cX1_change 31 = .ok (.iinc 2 1, 3) := by decide +kernel
theorem dX1_change_34 : decode cX1_change 34 = .ok (.goto (-23), 3) := by decide +kernel
theorem dX1_change_37 : decode cX1_change 37 = .ok (.aload_n 0, 1) := by decide +kernel
theorem dX1_change_38 : decode cX1_change 38 = .ok (.bipush 9, 2) := by decide +kernel
theorem dX1_change_40 : decode cX1_change 40 = .ok (.putfield 34, 3) := by decide +kernel
theorem dX1_change_43 : decode cX1_change 43 = .ok (.aload_n 0, 1) := by decide +kernel
theorem dX1_change_44 : decode cX1_change 44 = .ok (.getfield 18, 3) := by decide +kernel
theorem dX1_change_47 : decode cX1_change 47 = .ok (.aload_n 0, 1) := by decide +kernel
theorem dX1_change_48 : decode cX1_change 48 = .ok (.getfield 34, 3) := by decide +kernel
theorem dX1_change_51 : decode cX1_change 51 = .ok (.iload_n 1, 1) := by decide +kernel
theorem dX1_change_52 : decode cX1_change 52 = .ok (.iastore, 1) := by decide +kernel
theorem dX1_change_53 : decode cX1_change 53 = .ok (.aload_n 0, 1) := by decide +kernel
theorem dX1_change_54 : decode cX1_change 54 = .ok (.dup, 1) := by decide +kernel
theorem dX1_change_55 : decode cX1_change 55 = .ok (.getfield 34, 3) := by decide +kernel
theorem dX1_change_58 : decode cX1_change 58 = .ok (.iconst 1, 1) := by decide +kernel
theorem dX1_change_59 : decode cX1_change 59 = .ok (.iadd, 1) := by decide +kernel
theorem dX1_change_60 : decode cX1_change 60 = .ok (.putfield 34, 3) := by decide +kernel
theorem dX1_change_63 : decode cX1_change 63 = .ok (.aload_n 0, 1) := by decide +kernel
theorem dX1_change_64 : decode cX1_change 64 = .ok (.iload_n 1, 1) := by decide +kernel
theorem dX1_change_65 : decode cX1_change 65 = .ok (.invokevirtual 44, 3) := by decide +kernel
theorem dX1_change_68 : decode cX1_change 68 = .ok (.return_, 1) := by decide +kernel
set_option maxRecDepth 20000 in
theorem ggX1_changeBack_X1_turn : GoodIn wsX1_changeBack wsX1_turn := goodIn_r _ [7, 8, 9, 10, 11, 12, 13, 14, 15, 16, 17] (by decide +kernel) (by decide +kernel)
set_option maxRecDepth 20000 in
theorem gX1_changeBack_X1_turn : GoodIn wsX1_changeBack (wsV RX1 44 RX1 yX1_turn wsX1_turn) := goodIn_app (goodIn_of _ (by decide +kernel)) ggX1_changeBack_X1_turn
theorem dX1_changeBack_0 : decode cX1_changeBack 0 = .ok (.aload_n 0, 1) := by decide +kernel
theorem dX1_changeBack_1 : decode cX1_changeBack 1 = .ok (.getfield 34, 3) := by decide +kernel
theorem dX1_changeBack_4 : decode cX1_changeBack 4 = .ok (.ifCond .le 26, 3) := by decide +kernel
theorem dX1_changeBack_7 : decode cX1_changeBack 7 = .ok (.aload_n 0, 1) := by decide +kernel
theorem dX1_changeBack_8 : decode cX1_changeBack 8 = .ok (.dup, 1) := by decide +kernel
theorem dX1_changeBack_9 : decode cX1_changeBack 9 = .ok (.getfield 34, 3) := by decide +kernel
theorem dX1_changeBack_12 : decode cX1_changeBack 12 = .ok (.iconst 1, 1) := by decide +kernel
theorem dX1_changeBack_13 : decode cX1_changeBack 13 = .ok (.isub, 1) := by decide +kernel
theorem dX1_changeBack_14 : decode cX1_changeBack 14 = .ok (.putfield 34, 3) := by decide +kernel
theorem dX1_changeBack_17 : decode cX1_changeBack 17 = .ok (.aload_n 0, 1) := by decide +kernel
theorem dX1_changeBack_18 : decode cX1_changeBack 18 = .ok (.aload_n 0, 1) := by decide +kernel
theorem dX1_changeBack_19 : decode cX1_changeBack 19 = .ok (.getfield 18, 3) := by decide +kernel
theorem dX1_changeBack_22 : decode cX1_changeBack 22 = .ok (.aload_n 0, 1) := by decide +kernel
theorem dX1_changeBack_23 : decode cX1_changeBack 23 = .ok (.getfield 34, 3) := by decide +kernel
theorem dX1_changeBack_26 : decode cX1_changeBack 26 = .ok (.iaload, 1) := by decide +kernel
theorem dX1_changeBack_27 : decode cX1_changeBack 27 = .ok (.invokevirtual 44, 3) := by decide +kernel
theorem dX1_changeBack_30 : decode cX1_changeBack 30 = .ok (.return_, 1) := by decide +kernel
theorem dX1_turn_0 : decode cX1_turn 0 = .ok (.iload_n 1, 1) := by decide +kernel
theorem dX1_turn_1 : decode cX1_turn 1 = .ok (.bipush 6, 2) := by decide +kernel
theorem dX1_turn_3 : decode cX1_turn 3 = .ok (.if_icmp .ge 18, 3) := by decide +kernel
theorem dX1_turn_6 : decode cX1_turn 6 = .ok (.aload_n 0, 1) := by decide +kernel
theorem dX1_turn_7 : decode cX1_turn 7 = .ok (.dup, 1) := by decide +kernel
theorem dX1_turn_8 : decode cX1_turn 8 = .ok (.getfield 25, 3) := by decide +kernel
theorem dX1_turn_11 : decode cX1_turn 11 = .ok (.iconst 1, 1) := by decide +kernel
theorem dX1_turn_12 : decode cX1_turn 12 = .ok (.iload_n 1, 1) := by decide +kernel
theorem dX1_turn_13 : decode cX1_turn 13 = .ok (.ishl, 1) := by decide +kernel
theorem dX1_turn_14 : decode cX1_turn 14 = .ok (.ixor, 1) := by decide +kernel
theorem dX1_turn_15 : decode cX1_turn 15 = .ok (.putfield 25, 3) := by decide +kernel
theorem dX1_turn_18 : decode cX1_turn 18 = .ok (.goto 18, 3) := by decide +kernel
theorem dX1_turn_21 : decode cX1_turn 21 = .ok (.aload_n 0, 1) := by decide +kernel
theorem dX1_turn_22 : decode cX1_turn 22 = .ok (.dup, 1) := by decide +kernel
theorem dX1_turn_23 : decode cX1_turn 23 = .ok (.getfield 28, 3) := by decide +kernel
theorem dX1_turn_26 : decode cX1_turn 26 = .ok (.iconst 1, 1) := by decide +kernel
theorem dX1_turn_27 : decode cX1_turn 27 = .ok (.iload_n 1, 1) := by decide +kernel
theorem dX1_turn_28 : decode cX1_turn 28 = .ok (.bipush 6, 2) := by decide +kernel
theorem dX1_turn_30 : decode cX1_turn 30 = .ok (.isub, 1) := by decide +kernel
theorem dX1_turn_31 : decode cX1_turn 31 = .ok (.ishl, 1) := by decide +kernel
theorem dX1_turn_32 : decode cX1_turn 32 = .ok (.ixor, 1) := by decide +kernel
theorem dX1_turn_33 : decode cX1_turn 33 = .ok (.putfield 28, 3) := by decide +kernel
theorem dX1_turn_36 : decode cX1_turn 36 = .ok (.return_, 1) := by decide +kernel
set_option maxRecDepth 20000 in
theorem ggX1_goBy_X7_bit : GoodIn wsX1_goBy wsX7_bit := goodIn_r _ [11] (by decide +kernel) (by decide +kernel)
set_option maxRecDepth 20000 in
theorem gX1_goBy_X7_bit_n53 : GoodIn wsX1_goBy (wsX7_bit) := ggX1_goBy_X7_bit
set_option maxRecDepth 20000 in
theorem ggX1_goBy_X1_giveOff : GoodIn wsX1_goBy wsX1_giveOff := goodIn_r _ [16, 17, 4, 18, 3, 2, 19, 20, 9, 10, 11, 21, 22, 23, 24, 25, 26, 27, 28, 29, 30, 31, 32, 33, 34, 35, 36, 37] (by decide +kernel) (by decide +kernel)
set_option maxRecDepth 20000 in
theorem gX1_goBy_X1_giveOff : GoodIn wsX1_goBy (wsV RX1 63 RX1 yX1_giveOff wsX1_giveOff) := goodIn_app (goodIn_of _ (by decide +kernel)) ggX1_goBy_X1_giveOff
theorem dX1_goBy_0 : decode cX1_goBy 0 = .ok (.aload_n 0, 1) := by decide +kernel
theorem dX1_goBy_1 : decode cX1_goBy 1 = .ok (.getfield 21, 3) := by decide +kernel
theorem dX1_goBy_4 : decode cX1_goBy 4 = .ok (.bipush 8, 2) := by decide +kernel
theorem dX1_goBy_6 : decode cX1_goBy 6 = .ok (.irem, 1) := by decide +kernel
theorem dX1_goBy_7 : decode cX1_goBy 7 = .ok (.istore_n 2, 1) := by decide +kernel
theorem dX1_goBy_8 : decode cX1_goBy 8 = .ok (.iconst 0, 1) := by decide +kernel
theorem dX1_goBy_9 : decode cX1_goBy 9 = .ok (.istore_n 3, 1) := by decide +kernel
theorem dX1_goBy_10 : decode cX1_goBy 10 = .ok (.iload_n 3, 1) := by decide +kernel
theorem dX1_goBy_11 : decode cX1_goBy 11 = .ok (.aload_n 1, 1) := by decide +kernel
theorem dX1_goBy_12 : decode cX1_goBy 12 = .ok (.getfield 48, 3) := by decide +kernel
theorem dX1_goBy_15 : decode cX1_goBy 15 = .ok (.if_icmp .ge 46, 3) := by decide +kernel
theorem dX1_goBy_18 : decode cX1_goBy 18 = .ok (.aload_n 0, 1) := by decide +kernel
theorem dX1_goBy_19 : decode cX1_goBy 19 = .ok (.getfield 15, 3) := by decide +kernel
theorem dX1_goBy_22 : decode cX1_goBy 22 = .ok (.iload_n 3, 1) := by decide +kernel
theorem dX1_goBy_23 : decode cX1_goBy 23 = .ok (.aload_n 0, 1) := by decide +kernel
theorem dX1_goBy_24 : decode cX1_goBy 24 = .ok (.getfield 9, 3) := by decide +kernel
theorem dX1_goBy_27 : decode cX1_goBy 27 = .ok (.iload_n 3, 1) := by decide +kernel
theorem dX1_goBy_28 : decode cX1_goBy 28 = .ok (.iaload, 1) := by decide +kernel
theorem dX1_goBy_29 : decode cX1_goBy 29 = .ok (.aload_n 1, 1) := by decide +kernel
theorem dX1_goBy_30 : decode cX1_goBy 30 = .ok (.getfield 51, 3) := by decide +kernel
theorem dX1_goBy_33 : decode cX1_goBy 33 = .ok (.iload_n 3, 1) := by decide +kernel
theorem dX1_goBy_34 : decode cX1_goBy 34 = .ok (.iaload, 1) := by decide +kernel
theorem dX1_goBy_35 : decode cX1_goBy 35 = .ok (.iload_n 2, 1) := by decide +kernel
theorem dX1_goBy_36 : decode cX1_goBy 36 = .ok (.invokestatic 53, 3) := by decide +kernel
theorem dX1_goBy_39 : decode cX1_goBy 39 = .ok (.aload_n 1, 1) := by decide +kernel
theorem dX1_goBy_40 : decode cX1_goBy 40 = .ok (.getfield 57, 3) := by decide +kernel
theorem dX1_goBy_43 : decode cX1_goBy 43 = .ok (.iload_n 3, 1) := by decide +kernel
theorem dX1_goBy_44 : decode cX1_goBy 44 = .ok (.iaload, 1) := by decide +kernel
theorem dX1_goBy_45 : decode cX1_goBy 45 = .ok (.imul, 1) := by decide +kernel
theorem dX1_goBy_46 : decode cX1_goBy 46 = .ok (.iadd, 1) := by decide +kernel
theorem dX1_goBy_47 : decode cX1_goBy 47 = .ok (.aload_n 1, 1) := by decide +kernel
theorem dX1_goBy_48 : decode cX1_goBy 48 = .ok (.getfield 60, 3) := by decide +kernel
theorem dX1_goBy_51 : decode cX1_goBy 51 = .ok (.iload_n 3, 1) := by decide +kernel
theorem dX1_goBy_52 : decode cX1_goBy 52 = .ok (.iaload, 1) := by decide +kernel
theorem dX1_goBy_53 : decode cX1_goBy 53 = .ok (.iadd, 1) := by decide +kernel
theorem dX1_goBy_54 : decode cX1_goBy 54 = .ok (.iastore, 1) := by decide +kernel
theorem dX1_goBy_55 : decode cX1_goBy 55 = .ok (.iinc 3 1, 3) := by decide +kernel
theorem dX1_goBy_58 : decode cX1_goBy 58 = .ok (.goto (-48), 3) := by decide +kernel
theorem dX1_goBy_61 : decode cX1_goBy 61 = .ok (.iconst 0, 1) := by decide +kernel
theorem dX1_goBy_62 : decode cX1_goBy 62 = .ok (.istore_n 3, 1) := by decide +kernel
theorem dX1_goBy_63 : decode cX1_goBy 63 = .ok (.iconst 0, 1) := by decide +kernel
theorem dX1_goBy_64 : decode cX1_goBy 64 = .ok (.istore 4, 2) := by decide +kernel
theorem dX1_goBy_66 : decode cX1_goBy 66 = .ok (.iload 4, 2) := by decide +kernel
theorem dX1_goBy_68 : decode cX1_goBy 68 = .ok (.aload_n 1, 1) := by decide +kernel
theorem dX1_goBy_69 : decode cX1_goBy 69 = .ok (.getfield 48, 3) := by decide +kernel
theorem dX1_goBy_72 : decode cX1_goBy 72 = .ok (.if_icmp .ge 19, 3) := by decide +kernel
theorem dX1_goBy_75 : decode cX1_goBy 75 = .ok (.iload_n 3, 1) := by decide +kernel
theorem dX1_goBy_76 : decode cX1_goBy 76 = .ok (.aload_n 0, 1) := by decide +kernel
theorem dX1_goBy_77 : decode cX1_goBy 77 = .ok (.aload_n 1, 1) := by decide +kernel
theorem dX1_goBy_78 : decode cX1_goBy 78 = .ok (.iload 4, 2) := by decide +kernel
theorem dX1_goBy_80 : decode cX1_goBy 80 = .ok (.invokevirtual 63, 3) := by decide +kernel
theorem dX1_goBy_83 : decode cX1_goBy 83 = .ok (.iadd, 1) := by decide +kernel
theorem dX1_goBy_84 : decode cX1_goBy 84 = .ok (.istore_n 3, 1) := by decide +kernel
theorem dX1_goBy_85 : decode cX1_goBy 85 = .ok (.iinc 4 1, 3) := by decide +kernel
theorem dX1_goBy_88 : decode cX1_goBy 88 = .ok (.goto (-22), 3) := by decide +kernel
theorem dX1_goBy_91 : decode cX1_goBy 91 = .ok (.iconst 0, 1) := by decide +kernel
theorem dX1_goBy_92 : decode cX1_goBy 92 = .ok (.istore 4, 2) := by decide +kernel
theorem dX1_goBy_94 : decode cX1_goBy 94 = .ok (.iload 4, 2) := by decide +kernel
theorem dX1_goBy_96 : decode cX1_goBy 96 = .ok (.aload_n 1, 1) := by decide +kernel
theorem dX1_goBy_97 : decode cX1_goBy 97 = .ok (.getfield 48, 3) := by decide +kernel
theorem dX1_goBy_100 : decode cX1_goBy 100 = .ok (.if_icmp .ge 23, 3) := by decide +kernel
theorem dX1_goBy_103 : decode cX1_goBy 103 = .ok (.aload_n 0, 1) := by decide +kernel
theorem dX1_goBy_104 : decode cX1_goBy 104 = .ok (.getfield 9, 3) := by decide +kernel
theorem dX1_goBy_107 : decode cX1_goBy 107 = .ok (.iload 4, 2) := by decide +kernel
theorem dX1_goBy_109 : decode cX1_goBy 109 = .ok (.aload_n 0, 1) := by decide +kernel
theorem dX1_goBy_110 : decode cX1_goBy 110 = .ok (.getfield 15, 3) := by decide +kernel
theorem dX1_goBy_113 : decode cX1_goBy 113 = .ok (.iload 4, 2) := by decide +kernel
theorem dX1_goBy_115 : decode cX1_goBy 115 = .ok (.iaload, 1) := by decide +kernel
theorem dX1_goBy_116 : decode cX1_goBy 116 = .ok (.iastore, 1) := by decide +kernel
theorem dX1_goBy_117 : decode cX1_goBy 117 = .ok (.iinc 4 1, 3) := by decide +kernel
theorem dX1_goBy_120 : decode cX1_goBy 120 = .ok (.goto (-26), 3) := by decide +kernel
theorem dX1_goBy_123 : decode cX1_goBy 123 = .ok (.aload_n 0, 1) := by decide +kernel
theorem dX1_goBy_124 : decode cX1_goBy 124 = .ok (.dup, 1) := by decide +kernel
theorem dX1_goBy_125 : decode cX1_goBy 125 = .ok (.getfield 21, 3) := by decide +kernel
theorem dX1_goBy_128 : decode cX1_goBy 128 = .ok (.iconst 1, 1) := by decide +kernel
theorem dX1_goBy_129 : decode cX1_goBy 129 = .ok (.iadd, 1) := by decide +kernel
theorem dX1_goBy_130 : decode cX1_goBy 130 = .ok (.putfield 21, 3) := by decide +kernel
theorem dX1_goBy_133 : decode cX1_goBy 133 = .ok (.aload_n 0, 1) := by decide +kernel
theorem dX1_goBy_134 : decode cX1_goBy 134 = .ok (.dup, 1) := by decide +kernel
theorem dX1_goBy_135 : decode cX1_goBy 135 = .ok (.getfield 31, 3) := by decide +kernel
theorem dX1_goBy_138 : decode cX1_goBy 138 = .ok (.iload_n 3, 1) := by decide +kernel
theorem dX1_goBy_139 : decode cX1_goBy 139 = .ok (.iadd, 1) := by decide +kernel
theorem dX1_goBy_140 : decode cX1_goBy 140 = .ok (.putfield 31, 3) := by decide +kernel
theorem dX1_goBy_143 : decode cX1_goBy 143 = .ok (.iload_n 3, 1) := by decide +kernel
theorem dX1_goBy_144 : decode cX1_goBy 144 = .ok (.ireturn, 1) := by decide +kernel
set_option maxRecDepth 20000 in
theorem ggX1_giveOff_X7_bit : GoodIn wsX1_giveOff wsX7_bit := goodIn_r _ [10] (by decide +kernel) (by decide +kernel)
set_option maxRecDepth 20000 in
theorem gX1_giveOff_X7_bit_n53 : GoodIn wsX1_giveOff (wsX7_bit) := ggX1_giveOff_X7_bit
theorem dX1_giveOff_0 : decode cX1_giveOff 0 = .ok (.aload_n 0, 1) := by decide +kernel
theorem dX1_giveOff_1 : decode cX1_giveOff 1 = .ok (.getfield 25, 3) := by decide +kernel
theorem dX1_giveOff_4 : decode cX1_giveOff 4 = .ok (.iload_n 2, 1) := by decide +kernel
theorem dX1_giveOff_5 : decode cX1_giveOff 5 = .ok (.invokestatic 53, 3) := by decide +kernel
theorem dX1_giveOff_8 : decode cX1_giveOff 8 = .ok (.iconst 1, 1) := by decide +kernel
theorem dX1_giveOff_9 : decode cX1_giveOff 9 = .ok (.if_icmp .ne 7, 3) := by decide +kernel
theorem dX1_giveOff_12 : decode cX1_giveOff 12 = .ok (.iconst 0, 1) := by decide +kernel
theorem dX1_giveOff_13 : decode cX1_giveOff 13 = .ok (.goto 19, 3) := by decide +kernel
theorem dX1_giveOff_16 : decode cX1_giveOff 16 = .ok (.aload_n 0, 1) := by decide +kernel
theorem dX1_giveOff_17 : decode cX1_giveOff 17 = .ok (.getfield 9, 3) := by decide +kernel
theorem dX1_giveOff_20 : decode cX1_giveOff 20 = .ok (.iload_n 2, 1) := by decide +kernel
theorem dX1_giveOff_21 : decode cX1_giveOff 21 = .ok (.iaload, 1) := by decide +kernel
theorem dX1_giveOff_22 : decode cX1_giveOff 22 = .ok (.aload_n 1, 1) := by decide +kernel
theorem dX1_giveOff_23 : decode cX1_giveOff 23 = .ok (.getfield 67, 3) := by decide +kernel
theorem dX1_giveOff_26 : decode cX1_giveOff 26 = .ok (.iload_n 2, 1) := by decide +kernel
theorem dX1_giveOff_27 : decode cX1_giveOff 27 = .ok (.iaload, 1) := by decide +kernel
theorem dX1_giveOff_28 : decode cX1_giveOff 28 = .ok (.imul, 1) := by decide +kernel
theorem dX1_giveOff_29 : decode cX1_giveOff 29 = .ok (.bipush 10, 2) := by decide +kernel
theorem dX1_giveOff_31 : decode cX1_giveOff 31 = .ok (.idiv, 1) := by decide +kernel
theorem dX1_giveOff_32 : decode cX1_giveOff 32 = .ok (.istore_n 3, 1) := by decide +kernel
theorem dX1_giveOff_33 : decode cX1_giveOff 33 = .ok (.iload_n 3, 1) := by decide +kernel
theorem dX1_giveOff_34 : decode cX1_giveOff 34 = .ok (.ifCond .ne 5, 3) := by decide +kernel
theorem dX1_giveOff_37 : decode cX1_giveOff 37 = .ok (.iconst 0, 1) := by decide +kernel
theorem dX1_giveOff_38 : decode cX1_giveOff 38 = .ok (.ireturn, 1) := by decide +kernel
theorem dX1_giveOff_39 : decode cX1_giveOff 39 = .ok (.aload_n 0, 1) := by decide +kernel
theorem dX1_giveOff_40 : decode cX1_giveOff 40 = .ok (.getfield 15, 3) := by decide +kernel
theorem dX1_giveOff_43 : decode cX1_giveOff 43 = .ok (.iload_n 2, 1) := by decide +kernel
theorem dX1_giveOff_44 : decode cX1_giveOff 44 = .ok (.dup2, 1) := by decide +kernel
theorem dX1_giveOff_45 : decode cX1_giveOff 45 = .ok (.iaload, 1) := by decide +kernel
theorem dX1_giveOff_46 : decode cX1_giveOff 46 = .ok (.iload_n 3, 1) := by decide +kernel
theorem dX1_giveOff_47 : decode cX1_giveOff 47 = .ok (.isub, 1) := by decide +kernel
theorem dX1_giveOff_48 : decode cX1_giveOff 48 = .ok (.iastore, 1) := by decide +kernel
theorem dX1_giveOff_49 : decode cX1_giveOff 49 = .ok (.iload_n 3, 1) := by decide +kernel
theorem dX1_giveOff_50 : decode cX1_giveOff 50 = .ok (.istore 4, 2) := by decide +kernel
theorem dX1_giveOff_52 : decode cX1_giveOff 52 = .ok (.iconst 0, 1) := by decide +kernel
theorem dX1_giveOff_53 : decode cX1_giveOff 53 = .ok (.istore 5, 2) := by decide +kernel
theorem dX1_giveOff_55 : decode cX1_giveOff 55 = .ok (.iload 5, 2) := by decide +kernel
theorem dX1_giveOff_57 : decode cX1_giveOff 57 = .ok (.aload_n 1, 1) := by decide +kernel
theorem dX1_giveOff_58 : decode cX1_giveOff 58 = .ok (.getfield 48, 3) := by decide +kernel
theorem dX1_giveOff_61 : decode cX1_giveOff 61 = .ok (.if_icmp .ge 101, 3) := by decide +kernel
theorem dX1_giveOff_64 : decode cX1_giveOff 64 = .ok (.iload_n 3, 1) := by decide +kernel
theorem dX1_giveOff_65 : decode cX1_giveOff 65 = .ok (.aload_n 1, 1) := by decide +kernel
theorem dX1_giveOff_66 : decode cX1_giveOff 66 = .ok (.getfield 70, 3) := by decide +kernel
theorem dX1_giveOff_69 : decode cX1_giveOff 69 = .ok (.iload_n 2, 1) := by decide +kernel
theorem dX1_giveOff_70 : decode cX1_giveOff 70 = .ok (.bipush 6, 2) := by decide +kernel
theorem dX1_giveOff_72 : decode cX1_giveOff 72 = .ok (.imul, 1) := by decide +kernel
theorem dX1_giveOff_73 : decode cX1_giveOff 73 = .ok (.iload 5, 2) := by decide +kernel
theorem dX1_giveOff_75 : decode cX1_giveOff 75 = .ok (.iadd, 1) := by decide +kernel
theorem dX1_giveOff_76 : decode cX1_giveOff 76 = .ok (.iaload, 1) := by decide +kernel
theorem dX1_giveOff_77 : decode cX1_giveOff 77 = .ok (.imul, 1) := by decide +kernel
theorem dX1_giveOff_78 : decode cX1_giveOff 78 = .ok (.bipush 10, 2) := by decide +kernel
theorem dX1_giveOff_80 : decode cX1_giveOff 80 = .ok (.idiv, 1) := by decide +kernel
theorem dX1_giveOff_81 : decode cX1_giveOff 81 = .ok (.istore 6, 2) := by decide +kernel
theorem dX1_giveOff_83 : decode cX1_giveOff 83 = .ok (.iload 6, 2) := by decide +kernel
theorem dX1_giveOff_85 : decode cX1_giveOff 85 = .ok (.ifCond .ne 6, 3) := by decide +kernel
theorem dX1_giveOff_88 : decode cX1_giveOff 88 = .ok (.goto 68, 3) := by decide +kernel
theorem dX1_giveOff_91 : decode cX1_giveOff 91 = .ok (.aload_n 0, 1) := by decide +kernel
theorem dX1_giveOff_92 : decode cX1_giveOff 92 = .ok (.getfield 28, 3) := by decide +kernel
theorem dX1_giveOff_95 : decode cX1_giveOff 95 = .ok (.iload 5, 2) := by decide +kernel
theorem dX1_giveOff_97 : decode cX1_giveOff 97 = .ok (.invokestatic 53, 3) := by decide +kernel
theorem dX1_giveOff_100 : decode cX1_giveOff 100 = .ok (.iconst 1, 1) := by decide +kernel
theorem dX1_giveOff_101 : decode cX1_giveOff 101 = .ok (.if_icmp .ne 24, 3) := by decide +kernel
theorem dX1_giveOff_104 : decode cX1_giveOff 104 = .ok (.aload_n 0, 1) := by decide +kernel
theorem dX1_giveOff_105 : decode cX1_giveOff 105 = .ok (.getfield 15, 3) := by decide +kernel
theorem dX1_giveOff_108 : decode cX1_giveOff 108 = .ok (.iload_n 2, 1) := by decide +kernel
theorem dX1_giveOff_109 : decode cX1_giveOff 109 = .ok (.dup2, 1) := by decide +kernel
theorem dX1_giveOff_110 : decode cX1_giveOff 110 = .ok (.iaload, 1) := by decide +kernel
theorem dX1_giveOff_111 : decode cX1_giveOff 111 = .ok (.iload 6, 2) := by decide +kernel
theorem dX1_giveOff_113 : decode cX1_giveOff 113 = .ok (.iadd, 1) := by decide +kernel
theorem dX1_giveOff_114 : decode cX1_giveOff 114 = .ok (.iastore, 1) := by decide +kernel
theorem dX1_giveOff_115 : decode cX1_giveOff 115 = .ok (.iload 4, 2) := by decide +kernel
theorem dX1_giveOff_117 : decode cX1_giveOff 117 = .ok (.iload 6, 2) := by decide +kernel
theorem dX1_giveOff_119 : decode cX1_giveOff 119 = .ok (.isub, 1) := by decide +kernel
theorem dX1_giveOff_120 : decode cX1_giveOff 120 = .ok (.istore 4, 2) := by decide +kernel
theorem dX1_giveOff_122 : decode cX1_giveOff 122 = .ok (.goto 34, 3) := by decide +kernel
theorem dX1_giveOff_125 : decode cX1_giveOff 125 = .ok (.aload_n 0, 1) := by decide +kernel
theorem dX1_giveOff_126 : decode cX1_giveOff 126 = .ok (.getfield 25, 3) := by decide +kernel
theorem dX1_giveOff_129 : decode cX1_giveOff 129 = .ok (.iload 5, 2) := by decide +kernel
theorem dX1_giveOff_131 : decode cX1_giveOff 131 = .ok (.invokestatic 53, 3) := by decide +kernel
theorem dX1_giveOff_134 : decode cX1_giveOff 134 = .ok (.ifCond .ne 22, 3) := by decide +kernel
theorem dX1_giveOff_137 : decode cX1_giveOff 137 = .ok (.aload_n 0, 1) := by decide +kernel
theorem dX1_giveOff_138 : decode cX1_giveOff 138 = .ok (.getfield 15, 3) := by decide +kernel
theorem dX1_giveOff_141 : decode cX1_giveOff 141 = .ok (.iload 5, 2) := by decide +kernel
theorem dX1_giveOff_143 : decode cX1_giveOff 143 = .ok (.dup2, 1) := by decide +kernel
theorem dX1_giveOff_144 : decode cX1_giveOff 144 = .ok (.iaload, 1) := by decide +kernel
theorem dX1_giveOff_145 : decode cX1_giveOff 145 = .ok (.iload 6, 2) := by decide +kernel
theorem dX1_giveOff_147 : decode cX1_giveOff 147 = .ok (.iadd, 1) := by decide +kernel
theorem dX1_giveOff_148 : decode cX1_giveOff 148 = .ok (.iastore, 1) := by decide +kernel
theorem dX1_giveOff_149 : decode cX1_giveOff 149 = .ok (.iload 4, 2) := by decide +kernel
theorem dX1_giveOff_151 : decode cX1_giveOff 151 = .ok (.iload 6, 2) := by decide +kernel
theorem dX1_giveOff_153 : decode cX1_giveOff 153 = .ok (.isub, 1) := by decide +kernel
theorem dX1_giveOff_154 : decode cX1_giveOff 154 = .ok (.istore 4, 2) := by decide +kernel
theorem dX1_giveOff_156 : decode cX1_giveOff 156 = .ok (.iinc 5 1, 3) := by decide +kernel
theorem dX1_giveOff_159 : decode cX1_giveOff 159 = .ok (.goto (-104), 3) := by decide +kernel
theorem dX1_giveOff_162 : decode cX1_giveOff 162 = .ok (.iload 4, 2) := by decide +kernel
theorem dX1_giveOff_164 : decode cX1_giveOff 164 = .ok (.ireturn, 1) := by decide +kernel
theorem dX1_warmthOfAll_0 : decode cX1_warmthOfAll 0 = .ok (.iconst 0, 1) := by decide +kernel
theorem dX1_warmthOfAll_1 : decode cX1_warmthOfAll 1 = .ok (.istore_n 2, 1) := by decide +kernel
theorem dX1_warmthOfAll_2 : decode cX1_warmthOfAll 2 = .ok (.iconst 0, 1) := by decide +kernel
theorem dX1_warmthOfAll_3 : decode cX1_warmthOfAll 3 = .ok (.istore_n 3, 1) := by decide +kernel
theorem dX1_warmthOfAll_4 : decode cX1_warmthOfAll 4 = .ok (.iload_n 3, 1) := by decide +kernel
theorem dX1_warmthOfAll_5 : decode cX1_warmthOfAll 5 = .ok (.iload_n 1, 1) := by decide +kernel
theorem dX1_warmthOfAll_6 : decode cX1_warmthOfAll 6 = .ok (.if_icmp .ge 24, 3) := by decide +kernel
theorem dX1_warmthOfAll_9 : decode cX1_warmthOfAll 9 = .ok (.iload_n 3, 1) := by decide +kernel
theorem dX1_warmthOfAll_10 : decode cX1_warmthOfAll 10 = .ok (.bipush 6, 2) := by decide +kernel
theorem dX1_warmthOfAll_12 : decode cX1_warmthOfAll 12 = .ok (.if_icmp .ge 18, 3) := by decide +kernel
theorem dX1_warmthOfAll_15 : decode cX1_warmthOfAll 15 = .ok (.iload_n 2, 1) := by decide +kernel
theorem dX1_warmthOfAll_16 : decode cX1_warmthOfAll 16 = .ok (.aload_n 0, 1) := by decide +kernel
theorem dX1_warmthOfAll_17 : decode cX1_warmthOfAll 17 = .ok (.getfield 9, 3) := by decide +kernel
theorem dX1_warmthOfAll_20 : decode cX1_warmthOfAll 20 = .ok (.iload_n 3, 1) := by decide +kernel
theorem dX1_warmthOfAll_21 : decode cX1_warmthOfAll 21 = .ok (.iaload, 1) := by decide +kernel
theorem dX1_warmthOfAll_22 : decode cX1_warmthOfAll 22 = .ok (.iadd, 1) := by decide +kernel
theorem dX1_warmthOfAll_23 : decode cX1_warmthOfAll 23 = .ok (.istore_n 2, 1) := by decide +kernel
theorem dX1_warmthOfAll_24 : decode cX1_warmthOfAll 24 = .ok (.iinc 3 1, 3) := by decide +kernel
theorem dX1_warmthOfAll_27 : decode cX1_warmthOfAll 27 = .ok (.goto (-23), 3) := by decide +kernel
theorem dX1_warmthOfAll_30 : decode cX1_warmthOfAll 30 = .ok (.iload_n 2, 1) := by decide +kernel
theorem dX1_warmthOfAll_31 : decode cX1_warmthOfAll 31 = .ok (.ireturn, 1) := by decide +kernel
theorem dX1_tooWarm_0 : decode cX1_tooWarm 0 = .ok (.iconst 0, 1) := by decide +kernel
theorem dX1_tooWarm_1 : decode cX1_tooWarm 1 = .ok (.istore_n 2, 1) := by decide +kernel
theorem dX1_tooWarm_2 : decode cX1_tooWarm 2 = .ok (.iconst 0, 1) := by decide +kernel
theorem dX1_tooWarm_3 : decode cX1_tooWarm 3 = .ok (.istore_n 3, 1) := by decide +kernel
theorem dX1_tooWarm_4 : decode cX1_tooWarm 4 = .ok (.iload_n 3, 1) := by decide +kernel
theorem dX1_tooWarm_5 : decode cX1_tooWarm 5 = .ok (.aload_n 1, 1) := by decide +kernel
theorem dX1_tooWarm_6 : decode cX1_tooWarm 6 = .ok (.getfield 48, 3) := by decide +kernel
theorem dX1_tooWarm_9 : decode cX1_tooWarm 9 = .ok (.if_icmp .ge 28, 3) := by decide +kernel
theorem dX1_tooWarm_12 : decode cX1_tooWarm 12 = .ok (.aload_n 0, 1) := by decide +kernel
theorem dX1_tooWarm_13 : decode cX1_tooWarm 13 = .ok (.getfield 9, 3) := by decide +kernel
theorem dX1_tooWarm_16 : decode cX1_tooWarm 16 = .ok (.iload_n 3, 1) := by decide +kernel
theorem dX1_tooWarm_17 : decode cX1_tooWarm 17 = .ok (.iaload, 1) := by decide +kernel
theorem dX1_tooWarm_18 : decode cX1_tooWarm 18 = .ok (.aload_n 1, 1) := by decide +kernel
theorem dX1_tooWarm_19 : decode cX1_tooWarm 19 = .ok (.getfield 73, 3) := by decide +kernel
theorem dX1_tooWarm_22 : decode cX1_tooWarm 22 = .ok (.if_icmp .le 9, 3) := by decide +kernel
theorem dX1_tooWarm_25 : decode cX1_tooWarm 25 = .ok (.iload_n 2, 1) := by decide +kernel
theorem dX1_tooWarm_26 : decode cX1_tooWarm 26 = .ok (.iconst 1, 1) := by decide +kernel
theorem dX1_tooWarm_27 : decode cX1_tooWarm 27 = .ok (.iload_n 3, 1) := by decide +kernel
theorem dX1_tooWarm_28 : decode cX1_tooWarm 28 = .ok (.ishl, 1) := by decide +kernel
theorem dX1_tooWarm_29 : decode cX1_tooWarm 29 = .ok (.ior, 1) := by decide +kernel
theorem dX1_tooWarm_30 : decode cX1_tooWarm 30 = .ok (.istore_n 2, 1) := by decide +kernel
theorem dX1_tooWarm_31 : decode cX1_tooWarm 31 = .ok (.iinc 3 1, 3) := by decide +kernel
theorem dX1_tooWarm_34 : decode cX1_tooWarm 34 = .ok (.goto (-30), 3) := by decide +kernel
theorem dX1_tooWarm_37 : decode cX1_tooWarm 37 = .ok (.iload_n 2, 1) := by decide +kernel
theorem dX1_tooWarm_38 : decode cX1_tooWarm 38 = .ok (.ireturn, 1) := by decide +kernel
theorem dX1_warmest_0 : decode cX1_warmest 0 = .ok (.bipush (-9), 2) := by decide +kernel
theorem dX1_warmest_2 : decode cX1_warmest 2 = .ok (.istore_n 2, 1) := by decide +kernel
theorem dX1_warmest_3 : decode cX1_warmest 3 = .ok (.iconst 0, 1) := by decide +kernel
theorem dX1_warmest_4 : decode cX1_warmest 4 = .ok (.istore_n 3, 1) := by decide +kernel
theorem dX1_warmest_5 : decode cX1_warmest 5 = .ok (.iload_n 3, 1) := by decide +kernel
theorem dX1_warmest_6 : decode cX1_warmest 6 = .ok (.iload_n 1, 1) := by decide +kernel
theorem dX1_warmest_7 : decode cX1_warmest 7 = .ok (.if_icmp .ge 38, 3) := by decide +kernel
theorem dX1_warmest_10 : decode cX1_warmest 10 = .ok (.iload_n 3, 1) := by decide +kernel
theorem dX1_warmest_11 : decode cX1_warmest 11 = .ok (.bipush 6, 2) := by decide +kernel
theorem dX1_warmest_13 : decode cX1_warmest 13 = .ok (.if_icmp .ge 32, 3) := by decide +kernel
theorem dX1_warmest_16 : decode cX1_warmest 16 = .ok (.iload_n 2, 1) := by decide +kernel
theorem dX1_warmest_17 : decode cX1_warmest 17 = .ok (.bipush (-9), 2) := by decide +kernel
theorem dX1_warmest_19 : decode cX1_warmest 19 = .ok (.if_icmp .eq 18, 3) := by decide +kernel
theorem dX1_warmest_22 : decode cX1_warmest 22 = .ok (.aload_n 0, 1) := by decide +kernel
theorem dX1_warmest_23 : decode cX1_warmest 23 = .ok (.getfield 9, 3) := by decide +kernel
theorem dX1_warmest_26 : decode cX1_warmest 26 = .ok (.iload_n 3, 1) := by decide +kernel
theorem dX1_warmest_27 : decode cX1_warmest 27 = .ok (.iaload, 1) := by decide +kernel
theorem dX1_warmest_28 : decode cX1_warmest 28 = .ok (.aload_n 0, 1) := by decide +kernel
theorem dX1_warmest_29 : decode cX1_warmest 29 = .ok (.getfield 9, 3) := by decide +kernel
theorem dX1_warmest_32 : decode cX1_warmest 32 = .ok (.iload_n 2, 1) := by decide +kernel
theorem dX1_warmest_33 : decode cX1_warmest 33 = .ok (.iaload, 1) := by decide +kernel
theorem dX1_warmest_34 : decode cX1_warmest 34 = .ok (.if_icmp .le 5, 3) := by decide +kernel
theorem dX1_warmest_37 : decode cX1_warmest 37 = .ok (.iload_n 3, 1) := by decide +kernel
theorem dX1_warmest_38 : decode cX1_warmest 38 = .ok (.istore_n 2, 1) := by decide +kernel
theorem dX1_warmest_39 : decode cX1_warmest 39 = .ok (.iinc 3 1, 3) := by decide +kernel
theorem dX1_warmest_42 : decode cX1_warmest 42 = .ok (.goto (-37), 3) := by decide +kernel
theorem dX1_warmest_45 : decode cX1_warmest 45 = .ok (.iload_n 2, 1) := by decide +kernel
theorem dX1_warmest_46 : decode cX1_warmest 46 = .ok (.ireturn, 1) := by decide +kernel
theorem dX1_warmthOfWarmest_0 : decode cX1_warmthOfWarmest 0 = .ok (.iconst 0, 1) := by decide +kernel
theorem dX1_warmthOfWarmest_1 : decode cX1_warmthOfWarmest 1 = .ok (.istore_n 2, 1) := by decide +kernel
theorem dX1_warmthOfWarmest_2 : decode cX1_warmthOfWarmest 2 = .ok (.iconst 0, 1) := by decide +kernel
theorem dX1_warmthOfWarmest_3 : decode cX1_warmthOfWarmest 3 = .ok (.istore_n 3, 1) := by decide +kernel
theorem dX1_warmthOfWarmest_4 : decode cX1_warmthOfWarmest 4 = .ok (.iload_n 3, 1) := by decide +kernel
theorem dX1_warmthOfWarmest_5 : decode cX1_warmthOfWarmest 5 = .ok (.iload_n 1, 1) := by decide +kernel
theorem dX1_warmthOfWarmest_6 : decode cX1_warmthOfWarmest 6 = .ok (.if_icmp .ge 26, 3) := by decide +kernel
theorem dX1_warmthOfWarmest_9 : decode cX1_warmthOfWarmest 9 = .ok (.iload_n 3, 1) := by decide +kernel
theorem dX1_warmthOfWarmest_10 : decode cX1_warmthOfWarmest 10 = .ok (.bipush 6, 2) := by decide +kernel
theorem dX1_warmthOfWarmest_12 : decode cX1_warmthOfWarmest 12 = .ok (.if_icmp .ge 20, 3) := by decide +kernel
theorem dX1_warmthOfWarmest_15 : decode cX1_warmthOfWarmest 15 = .ok (.iload_n 2, 1) := by decide +kernel
theorem dX1_warmthOfWarmest_16 : decode cX1_warmthOfWarmest 16 = .ok (.aload_n 0, 1) := by decide +kernel
theorem dX1_warmthOfWarmest_17 : decode cX1_warmthOfWarmest 17 = .ok (.getfield 9, 3) := by decide +kernel
theorem dX1_warmthOfWarmest_20 : decode cX1_warmthOfWarmest 20 = .ok (.iload_n 3, 1) := by decide +kernel
theorem dX1_warmthOfWarmest_21 : decode cX1_warmthOfWarmest 21 = .ok (.iaload, 1) := by decide +kernel
theorem dX1_warmthOfWarmest_22 : decode cX1_warmthOfWarmest 22 = .ok (.invokestatic 76, 3) := by decide +kernel
theorem dX1_warmthOfWarmest_25 : decode cX1_warmthOfWarmest 25 = .ok (.istore_n 2, 1) := by decide +kernel
theorem dX1_warmthOfWarmest_26 : decode cX1_warmthOfWarmest 26 = .ok (.iinc 3 1, 3) := by decide +kernel
theorem dX1_warmthOfWarmest_29 : decode cX1_warmthOfWarmest 29 = .ok (.goto (-25), 3) := by decide +kernel
theorem dX1_warmthOfWarmest_32 : decode cX1_warmthOfWarmest 32 = .ok (.iload_n 2, 1) := by decide +kernel
theorem dX1_warmthOfWarmest_33 : decode cX1_warmthOfWarmest 33 = .ok (.ireturn, 1) := by decide +kernel
set_option maxRecDepth 20000 in
theorem ggX2_init_X5_init : GoodIn wsX2_init wsX5_init := goodIn_r _ [9, 10, 2, 3, 11, 12, 13, 14, 15, 16, 17, 18] (by decide +kernel) (by decide +kernel)
set_option maxRecDepth 20000 in
theorem gX2_init_X5_init_n11 : GoodIn wsX2_init (wsX5_init) := ggX2_init_X5_init
theorem dX2_init_0 : decode cX2_init 0 = .ok (.aload_n 0, 1) := by decide +kernel
theorem dX2_init_1 : decode cX2_init 1 = .ok (.invokespecial 3, 3) := by decide +kernel
theorem dX2_init_4 : decode cX2_init 4 = .ok (.aload_n 0, 1) := by decide +kernel
theorem dX2_init_5 : decode cX2_init 5 = .ok (.new 9, 3) := by decide +kernel
theorem dX2_init_8 : decode cX2_init 8 = .ok (.dup, 1) := by decide +kernel
theorem dX2_init_9 : decode cX2_init 9 = .ok (.invokespecial 11, 3) := by decide +kernel
theorem dX2_init_12 : decode cX2_init 12 = .ok (.putfield 12, 3) := by decide +kernel
theorem dX2_init_15 : decode cX2_init 15 = .ok (.return_, 1) := by decide +kernel
set_option maxRecDepth 20000 in
theorem ggX2_readInto_X5_cut : GoodIn wsX2_readInto wsX5_cut := goodIn_r _ [10, 11, 12, 13, 14, 15, 9, 16, 17, 18, 19, 20, 21, 22, 23, 24, 25, 26, 27, 28, 29, 30, 31, 32, 33, 34, 35, 36, 37, 38, 39, 40, 41, 42, 43, 44, 45, 46, 47, 48, 49, 50, 51, 52, 53, 54, 55, 56, 57, 58, 59, 60, 61, 62, 63, 64, 65, 66, 67, 68, 69, 70, 71, 72, 73, 74, 75, 76, 77, 78, 79, 80, 81, 82, 83, 84, 85, 86, 87, 88, 89, 90, 91, 92, 93, 94, 95, 96, 97, 98, 99, 100, 101, 102, 103, 104, 191, 192, 193, 194, 195, 196] (by decide +kernel) (by decide +kernel)
set_option maxRecDepth 20000 in
theorem gX2_readInto_X5_cut : GoodIn wsX2_readInto (wsV RX2 18 RX5 yX5_cut wsX5_cut) := goodIn_app (goodIn_of _ (by decide +kernel)) ggX2_readInto_X5_cut
set_option maxRecDepth 20000 in
theorem ggX2_readInto_X6_makeEmpty : GoodIn wsX2_readInto wsX6_makeEmpty := goodIn_r _ [109, 110, 111, 112, 113, 114, 115, 116, 117, 118, 119, 120, 108, 121, 122, 197, 198, 199, 200, 201, 202, 203, 204, 205] (by decide +kernel) (by decide +kernel)
set_option maxRecDepth 20000 in
theorem gX2_readInto_X6_makeEmpty : GoodIn wsX2_readInto (wsV RX2 22 RX6 yX6_makeEmpty wsX6_makeEmpty) := goodIn_app (goodIn_of _ (by decide +kernel)) ggX2_readInto_X6_makeEmpty
set_option maxRecDepth 20000 in
theorem ggX2_readInto_X2_readToken : GoodIn wsX2_readInto wsX2_readToken := goodIn_r _ [127, 2, 1, 128, 129, 5, 130, 4, 131, 132, 185, 186, 187, 188, 189, 190, 191, 192, 193, 194] (by decide +kernel) (by decide +kernel)
set_option maxRecDepth 20000 in
theorem gX2_readInto_X2_readToken : GoodIn wsX2_readInto (wsV RX2 35 RX2 yX2_readToken wsX2_readToken) := goodIn_app (goodIn_of _ (by decide +kernel)) ggX2_readInto_X2_readToken
set_option maxRecDepth 20000 in
theorem ggX2_readInto_X2_readItem : GoodIn wsX2_readInto wsX2_readItem := goodIn_r _ [136, 4, 132, 137, 138, 139, 126, 140, 141, 142, 143, 108, 144, 110, 145, 146, 147, 148, 123, 124, 125, 127, 2, 1, 128, 129, 5, 130, 131, 149, 150, 151, 152, 153, 154, 155, 156, 111, 112, 157, 158, 159, 160, 161, 162, 163, 164, 165, 115, 166, 167, 168, 169, 170, 171, 172, 173, 117, 174, 175, 176, 177, 178, 179, 180, 181, 182, 183, 3, 184, 119, 120, 121, 122, 185, 186, 187, 188, 189, 190, 197, 198, 199, 200, 201, 202, 203, 204, 205, 191, 192, 193, 194] (by decide +kernel) (by decide +kernel)
set_option maxRecDepth 20000 in
theorem gX2_readInto_X2_readItem : GoodIn wsX2_readInto (wsV RX2 41 RX2 yX2_readItem wsX2_readItem) := goodIn_app (goodIn_of _ (by decide +kernel)) ggX2_readInto_X2_readItem
theorem dX2_readInto_0 : decode cX2_readInto 0 = .ok (.aload_n 0, 1) := by decide +kernel
theorem dX2_readInto_1 : decode cX2_readInto 1 = .ok (.getfield 12, 3) := by decide +kernel
theorem dX2_readInto_4 : decode cX2_readInto 4 = .ok (.aload_n 2, 1) := by decide +kernel
theorem dX2_readInto_5 : decode cX2_readInto 5 = .ok (.invokevirtual 18, 3) := by decide +kernel
theorem dX2_readInto_8 : decode cX2_readInto 8 = .ok (.aload_n 1, 1) := by decide +kernel
theorem dX2_readInto_9 : decode cX2_readInto 9 = .ok (.invokevirtual 22, 3) := by decide +kernel
theorem dX2_readInto_12 : decode cX2_readInto 12 = .ok (.aload_n 0, 1) := by decide +kernel
theorem dX2_readInto_13 : decode cX2_readInto 13 = .ok (.iconst 0, 1) := by decide +kernel
theorem dX2_readInto_14 : decode cX2_readInto 14 = .ok (.putfield 27, 3) := by decide +kernel
theorem dX2_readInto_17 : decode cX2_readInto 17 = .ok (.aload_n 0, 1) := by decide +kernel
theorem dX2_readInto_18 : decode cX2_readInto 18 = .ok (.iconst 0, 1) := by decide +kernel
theorem dX2_readInto_19 : decode cX2_readInto 19 = .ok (.putfield 31, 3) := by decide +kernel
theorem dX2_readInto_22 : decode cX2_readInto 22 = .ok (.iconst 0, 1) := by decide +kernel
theorem dX2_readInto_23 : decode cX2_readInto 23 = .ok (.istore_n 3, 1) := by decide +kernel
theorem dX2_readInto_24 : decode cX2_readInto 24 = .ok (.aload_n 0, 1) := by decide +kernel
theorem dX2_readInto_25 : decode cX2_readInto 25 = .ok (.invokevirtual 35, 3) := by decide +kernel
theorem dX2_readInto_28 : decode cX2_readInto 28 = .ok (.aload_n 0, 1) := by decide +kernel
theorem dX2_readInto_29 : decode cX2_readInto 29 = .ok (.getfield 38, 3) := by decide +kernel
theorem dX2_readInto_32 : decode cX2_readInto 32 = .ok (.ifCond .eq 36, 3) := by decide +kernel
theorem dX2_readInto_35 : decode cX2_readInto 35 = .ok (.iload_n 3, 1) := by decide +kernel
theorem dX2_readInto_36 : decode cX2_readInto 36 = .ok (.sipush 251, 3) := by decide +kernel
theorem dX2_readInto_39 : decode cX2_readInto 39 = .ok (.if_icmp .ge 29, 3) := by decide +kernel
theorem dX2_readInto_42 : decode cX2_readInto 42 = .ok (.aload_n 0, 1) := by decide +kernel
theorem dX2_readInto_43 : decode cX2_readInto 43 = .ok (.aload_n 1, 1) := by decide +kernel
theorem dX2_readInto_44 : decode cX2_readInto 44 = .ok (.invokevirtual 41, 3) := by decide +kernel
theorem dX2_readInto_47 : decode cX2_readInto 47 = .ok (.ifCond .ne 11, 3) := by decide +kernel
theorem dX2_readInto_50 : decode cX2_readInto 50 = .ok (.bipush (-10), 2) := by decide +kernel
theorem dX2_readInto_52 : decode cX2_readInto 52 = .ok (.aload_n 0, 1) := by decide +kernel
theorem dX2_readInto_53 : decode cX2_readInto 53 = .ok (.getfield 45, 3) := by decide +kernel
theorem dX2_readInto_56 : decode cX2_readInto 56 = .ok (.isub, 1) := by decide +kernel
theorem dX2_readInto_57 : decode cX2_readInto 57 = .ok (.ireturn, 1) := by decide +kernel
theorem dX2_readInto_58 : decode cX2_readInto 58 = .ok (.iinc 3 1, 3) := by decide +kernel
theorem dX2_readInto_61 : decode cX2_readInto 61 = .ok (.aload_n 0, 1) := by decide +kernel
theorem dX2_readInto_62 : decode cX2_readInto 62 = .ok (.invokevirtual 35, 3) := by decide +kernel
theorem dX2_readInto_65 : decode cX2_readInto 65 = .ok (.goto (-37), 3) := by decide +kernel
theorem dX2_readInto_68 : decode cX2_readInto 68 = .ok (.iload_n 3, 1) := by decide +kernel
theorem dX2_readInto_69 : decode cX2_readInto 69 = .ok (.ireturn, 1) := by decide +kernel
theorem dX2_readToken_0 : decode cX2_readToken 0 = .ok (.aload_n 0, 1) := by decide +kernel
theorem dX2_readToken_1 : decode cX2_readToken 1 = .ok (.getfield 27, 3) := by decide +kernel
theorem dX2_readToken_4 : decode cX2_readToken 4 = .ok (.aload_n 0, 1) := by decide +kernel
theorem dX2_readToken_5 : decode cX2_readToken 5 = .ok (.getfield 12, 3) := by decide +kernel
theorem dX2_readToken_8 : decode cX2_readToken 8 = .ok (.getfield 48, 3) := by decide +kernel
theorem dX2_readToken_11 : decode cX2_readToken 11 = .ok (.if_icmp .ge 61, 3) := by decide +kernel
theorem dX2_readToken_14 : decode cX2_readToken 14 = .ok (.aload_n 0, 1) := by decide +kernel
theorem dX2_readToken_15 : decode cX2_readToken 15 = .ok (.aload_n 0, 1) := by decide +kernel
theorem dX2_readToken_16 : decode cX2_readToken 16 = .ok (.getfield 12, 3) := by decide +kernel
theorem dX2_readToken_19 : decode cX2_readToken 19 = .ok (.getfield 51, 3) := by decide +kernel
theorem dX2_readToken_22 : decode cX2_readToken 22 = .ok (.aload_n 0, 1) := by decide +kernel
theorem dX2_readToken_23 : decode cX2_readToken 23 = .ok (.getfield 27, 3) := by decide +kernel
theorem dX2_readToken_26 : decode cX2_readToken 26 = .ok (.iaload, 1) := by decide +kernel
theorem dX2_readToken_27 : decode cX2_readToken 27 = .ok (.putfield 45, 3) := by decide +kernel
theorem dX2_readToken_30 : decode cX2_readToken 30 = .ok (.aload_n 0, 1) := by decide +kernel
theorem dX2_readToken_31 : decode cX2_readToken 31 = .ok (.aload_n 0, 1) := by decide +kernel
theorem dX2_readToken_32 : decode cX2_readToken 32 = .ok (.getfield 12, 3) := by decide +kernel
theorem dX2_readToken_35 : decode cX2_readToken 35 = .ok (.getfield 54, 3) := by decide +kernel
theorem dX2_readToken_38 : decode cX2_readToken 38 = .ok (.aload_n 0, 1) := by decide +kernel
theorem dX2_readToken_39 : decode cX2_readToken 39 = .ok (.getfield 27, 3) := by decide +kernel
theorem dX2_readToken_42 : decode cX2_readToken 42 = .ok (.iaload, 1) := by decide +kernel
theorem dX2_readToken_43 : decode cX2_readToken 43 = .ok (.putfield 38, 3) := by decide +kernel
theorem dX2_readToken_46 : decode cX2_readToken 46 = .ok (.aload_n 0, 1) := by decide +kernel
theorem dX2_readToken_47 : decode cX2_readToken 47 = .ok (.aload_n 0, 1) := by decide +kernel
theorem dX2_readToken_48 : decode cX2_readToken 48 = .ok (.getfield 12, 3) := by decide +kernel
theorem dX2_readToken_51 : decode cX2_readToken 51 = .ok (.getfield 56, 3) := by decide +kernel
theorem dX2_readToken_54 : decode cX2_readToken 54 = .ok (.aload_n 0, 1) := by decide +kernel
theorem dX2_readToken_55 : decode cX2_readToken 55 = .ok (.getfield 27, 3) := by decide +kernel
theorem dX2_readToken_58 : decode cX2_readToken 58 = .ok (.iaload, 1) := by decide +kernel
theorem dX2_readToken_59 : decode cX2_readToken 59 = .ok (.putfield 59, 3) := by decide +kernel
theorem dX2_readToken_62 : decode cX2_readToken 62 = .ok (.aload_n 0, 1) := by decide +kernel
theorem dX2_readToken_63 : decode cX2_readToken 63 = .ok (.dup, 1) := by decide +kernel
theorem dX2_readToken_64 : decode cX2_readToken 64 = .ok (.getfield 27, 3) := by decide +kernel
theorem dX2_readToken_67 : decode cX2_readToken 67 = .ok (.iconst 1, 1) := by decide +kernel
theorem dX2_readToken_68 : decode cX2_readToken 68 = .ok (.iadd, 1) := by decide +kernel
theorem dX2_readToken_69 : decode cX2_readToken 69 = .ok (.putfield 27, 3) := by decide +kernel
theorem dX2_readToken_72 : decode cX2_readToken 72 = .ok (.return_, 1) := by decide +kernel
set_option maxRecDepth 20000 in
theorem ggX2_readNumber_X2_readToken : GoodIn wsX2_readNumber wsX2_readToken := goodIn_r _ [7, 8, 9, 10, 11, 12, 13, 1, 14, 2, 15, 16, 17, 18, 19, 20, 21, 22, 23, 24] (by decide +kernel) (by decide +kernel)
set_option maxRecDepth 20000 in
theorem gX2_readNumber_X2_readToken : GoodIn wsX2_readNumber (wsV RX2 35 RX2 yX2_readToken wsX2_readToken) := goodIn_app (goodIn_of _ (by decide +kernel)) ggX2_readNumber_X2_readToken
theorem dX2_readNumber_0 : decode cX2_readNumber 0 = .ok (.aload_n 0, 1) := by decide +kernel
theorem dX2_readNumber_1 : decode cX2_readNumber 1 = .ok (.invokevirtual 35, 3) := by decide +kernel
theorem dX2_readNumber_4 : decode cX2_readNumber 4 = .ok (.aload_n 0, 1) := by decide +kernel
theorem dX2_readNumber_5 : decode cX2_readNumber 5 = .ok (.getfield 38, 3) := by decide +kernel
theorem dX2_readNumber_8 : decode cX2_readNumber 8 = .ok (.iconst 2, 1) := by decide +kernel
theorem dX2_readNumber_9 : decode cX2_readNumber 9 = .ok (.if_icmp .ne 23, 3) := by decide +kernel
theorem dX2_readNumber_12 : decode cX2_readNumber 12 = .ok (.aload_n 0, 1) := by decide +kernel
theorem dX2_readNumber_13 : decode cX2_readNumber 13 = .ok (.getfield 59, 3) := by decide +kernel
theorem dX2_readNumber_16 : decode cX2_readNumber 16 = .ok (.iload_n 1, 1) := by decide +kernel
theorem dX2_readNumber_17 : decode cX2_readNumber 17 = .ok (.if_icmp .lt 15, 3) := by decide +kernel
theorem dX2_readNumber_20 : decode cX2_readNumber 20 = .ok (.aload_n 0, 1) := by decide +kernel
theorem dX2_readNumber_21 : decode cX2_readNumber 21 = .ok (.getfield 59, 3) := by decide +kernel
theorem dX2_readNumber_24 : decode cX2_readNumber 24 = .ok (.iload_n 2, 1) := by decide +kernel
theorem dX2_readNumber_25 : decode cX2_readNumber 25 = .ok (.if_icmp .gt 7, 3) := by decide +kernel
theorem dX2_readNumber_28 : decode cX2_readNumber 28 = .ok (.iconst 1, 1) := by decide +kernel
theorem dX2_readNumber_29 : decode cX2_readNumber 29 = .ok (.goto 4, 3) := by decide +kernel
theorem dX2_readNumber_32 : decode cX2_readNumber 32 = .ok (.iconst 0, 1) := by decide +kernel
theorem dX2_readNumber_33 : decode cX2_readNumber 33 = .ok (.ireturn, 1) := by decide +kernel
set_option maxRecDepth 20000 in
theorem ggX2_readSemicolon_X2_readToken : GoodIn wsX2_readSemicolon wsX2_readToken := goodIn_r _ [6, 7, 8, 9, 10, 11, 12, 1, 13, 14, 15, 16, 17, 18, 19, 20, 21, 22, 23, 24] (by decide +kernel) (by decide +kernel)
set_option maxRecDepth 20000 in
theorem gX2_readSemicolon_X2_readToken : GoodIn wsX2_readSemicolon (wsV RX2 35 RX2 yX2_readToken wsX2_readToken) := goodIn_app (goodIn_of _ (by decide +kernel)) ggX2_readSemicolon_X2_readToken
theorem dX2_readSemicolon_0 : decode cX2_readSemicolon 0 = .ok (.aload_n 0, 1) := by decide +kernel
theorem dX2_readSemicolon_1 : decode cX2_readSemicolon 1 = .ok (.invokevirtual 35, 3) := by decide +kernel
theorem dX2_readSemicolon_4 : decode cX2_readSemicolon 4 = .ok (.aload_n 0, 1) := by decide +kernel
theorem dX2_readSemicolon_5 : decode cX2_readSemicolon 5 = .ok (.getfield 38, 3) := by decide +kernel
theorem dX2_readSemicolon_8 : decode cX2_readSemicolon 8 = .ok (.iconst 3, 1) := by decide +kernel
theorem dX2_readSemicolon_9 : decode cX2_readSemicolon 9 = .ok (.if_icmp .ne 7, 3) := by decide +kernel
theorem dX2_readSemicolon_12 : decode cX2_readSemicolon 12 = .ok (.iconst 1, 1) := by decide +kernel
theorem dX2_readSemicolon_13 : decode cX2_readSemicolon 13 = .ok (.goto 4, 3) := by decide +kernel
theorem dX2_readSemicolon_16 : decode cX2_readSemicolon 16 = .ok (.iconst 0, 1) := by decide +kernel
theorem dX2_readSemicolon_17 : decode cX2_readSemicolon 17 = .ok (.ireturn, 1) := by decide +kernel
set_option maxRecDepth 20000 in
theorem ggX2_readItem_X2_readWall : GoodIn wsX2_readItem wsX2_readWall := goodIn_r _ [7, 2, 8, 9, 10, 11, 12, 13, 14, 15, 16, 6, 17, 1, 18, 19, 20, 21, 22, 23, 24, 25, 26, 27, 28, 29, 30, 31, 32, 33, 34, 35, 36, 37, 38, 74, 75, 76, 77, 78, 79, 80, 81, 82, 83, 84, 85, 86, 87, 88, 89, 90, 91, 92] (by decide +kernel) (by decide +kernel)
set_option maxRecDepth 20000 in
theorem gX2_readItem_X2_readWall : GoodIn wsX2_readItem (wsV RX2 61 RX2 yX2_readWall wsX2_readWall) := goodIn_app (goodIn_of _ (by decide +kernel)) ggX2_readItem_X2_readWall
set_option maxRecDepth 20000 in
theorem ggX2_readItem_X2_readSees : GoodIn wsX2_readItem wsX2_readSees := goodIn_r _ [42, 43, 2, 14, 15, 16, 6, 17, 1, 18, 19, 20, 21, 22, 23, 24, 25, 26, 27, 28, 44, 45, 46, 11, 47, 48, 49, 50, 51, 52, 29, 30, 31, 32, 53, 54, 55, 56, 57, 80, 81, 82, 83, 84, 85, 86, 87, 88, 74, 75, 76, 77, 78, 79, 89, 90, 91, 92] (by decide +kernel) (by decide +kernel)
set_option maxRecDepth 20000 in
theorem gX2_readItem_X2_readSees : GoodIn wsX2_readItem (wsV RX2 64 RX2 yX2_readSees wsX2_readSees) := goodIn_app (goodIn_of _ (by decide +kernel)) ggX2_readItem_X2_readSees
set_option maxRecDepth 20000 in
theorem ggX2_readItem_X2_readWork : GoodIn wsX2_readItem wsX2_readWork := goodIn_r _ [61, 43, 2, 62, 63, 14, 15, 16, 6, 17, 1, 18, 19, 20, 21, 22, 23, 24, 25, 26, 27, 28, 29, 30, 31, 32, 80, 81, 82, 83, 84, 85, 86, 87, 88, 74, 75, 76, 77, 78, 79, 89, 90, 91, 92] (by decide +kernel) (by decide +kernel)
set_option maxRecDepth 20000 in
theorem gX2_readItem_X2_readWork : GoodIn wsX2_readItem (wsV RX2 67 RX2 yX2_readWork wsX2_readWork) := goodIn_app (goodIn_of _ (by decide +kernel)) ggX2_readItem_X2_readWork
set_option maxRecDepth 20000 in
theorem ggX2_readItem_X2_readLimit : GoodIn wsX2_readItem wsX2_readLimit := goodIn_r _ [67, 68, 2, 14, 15, 16, 6, 17, 1, 18, 19, 20, 21, 22, 23, 24, 25, 26, 27, 28, 29, 30, 31, 32, 69, 70, 71, 11, 72, 73, 74, 75, 76, 77, 78, 79, 89, 90, 91, 92, 80, 81, 82, 83, 84, 85, 86, 87, 88] (by decide +kernel) (by decide +kernel)
set_option maxRecDepth 20000 in
theorem gX2_readItem_X2_readLimit : GoodIn wsX2_readItem (wsV RX2 70 RX2 yX2_readLimit wsX2_readLimit) := goodIn_app (goodIn_of _ (by decide +kernel)) ggX2_readItem_X2_readLimit
theorem dX2_readItem_0 : decode cX2_readItem 0 = .ok (.aload_n 0, 1) := by decide +kernel
theorem dX2_readItem_1 : decode cX2_readItem 1 = .ok (.getfield 38, 3) := by decide +kernel
theorem dX2_readItem_4 : decode cX2_readItem 4 = .ok (.iconst 1, 1) := by decide +kernel
theorem dX2_readItem_5 : decode cX2_readItem 5 = .ok (.if_icmp .eq 5, 3) := by decide +kernel
theorem dX2_readItem_8 : decode cX2_readItem 8 = .ok (.iconst 0, 1) := by decide +kernel
theorem dX2_readItem_9 : decode cX2_readItem 9 = .ok (.ireturn, 1) := by decide +kernel
theorem dX2_readItem_10 : decode cX2_readItem 10 = .ok (.aload_n 0, 1) := by decide +kernel
theorem dX2_readItem_11 : decode cX2_readItem 11 = .ok (.getfield 59, 3) := by decide +kernel
theorem dX2_readItem_14 : decode cX2_readItem 14 = .ok (.tableswitch 54 1 4 #[30, 36, 42, 48], 30) := by decide +kernel
theorem dX2_readItem_44 : decode cX2_readItem 44 = .ok (.aload_n 0, 1) := by decide +kernel
theorem dX2_readItem_45 : decode cX2_readItem 45 = .ok (.aload_n 1, 1) := by decide +kernel
theorem dX2_readItem_46 : decode cX2_readItem 46 = .ok (.invokevirtual 61, 3) := by decide +kernel
theorem dX2_readItem_49 : decode cX2_readItem 49 = .ok (.ireturn, 1) := by decide +kernel
theorem dX2_readItem_50 : decode cX2_readItem 50 = .ok (.aload_n 0, 1) := by decide +kernel
theorem dX2_readItem_51 : decode cX2_readItem 51 = .ok (.aload_n 1, 1) := by decide +kernel
theorem dX2_readItem_52 : decode cX2_readItem 52 = .ok (.invokevirtual 64, 3) := by decide +kernel
theorem dX2_readItem_55 : decode cX2_readItem 55 = .ok (.ireturn, 1) := by decide +kernel
theorem dX2_readItem_56 : decode cX2_readItem 56 = .ok (.aload_n 0, 1) := by decide +kernel
theorem dX2_readItem_57 : decode cX2_readItem 57 = .ok (.aload_n 1, 1) := by decide +kernel
theorem dX2_readItem_58 : decode cX2_readItem 58 = .ok (.invokevirtual 67, 3) := by decide +kernel
theorem dX2_readItem_61 : decode cX2_readItem 61 = .ok (.ireturn, 1) := by decide +kernel
theorem dX2_readItem_62 : decode cX2_readItem 62 = .ok (.aload_n 0, 1) := by decide +kernel
theorem dX2_readItem_63 : decode cX2_readItem 63 = .ok (.aload_n 1, 1) := by decide +kernel
theorem dX2_readItem_64 : decode cX2_readItem 64 = .ok (.invokevirtual 70, 3) := by decide +kernel
theorem dX2_readItem_67 : decode cX2_readItem 67 = .ok (.ireturn, 1) := by decide +kernel
theorem dX2_readItem_68 : decode cX2_readItem 68 = .ok (.iconst 0, 1) := by decide +kernel
theorem dX2_readItem_69 : decode cX2_readItem 69 = .ok (.ireturn, 1) := by decide +kernel
set_option maxRecDepth 20000 in
theorem ggX2_readWall_X6_hasRoom : GoodIn wsX2_readWall wsX6_hasRoom := goodIn_r _ [6, 7, 41, 42, 43, 44, 45, 46, 47, 48, 49] (by decide +kernel) (by decide +kernel)
set_option maxRecDepth 20000 in
theorem gX2_readWall_X6_hasRoom : GoodIn wsX2_readWall (wsV RX2 73 RX6 yX6_hasRoom wsX6_hasRoom) := goodIn_app (goodIn_of _ (by decide +kernel)) ggX2_readWall_X6_hasRoom
set_option maxRecDepth 20000 in
theorem ggX2_readWall_X2_readNumber : GoodIn wsX2_readWall wsX2_readNumber := goodIn_r _ [12, 13, 1, 14, 15, 16, 11, 17, 18, 19, 20, 21, 22, 23, 24, 35, 36, 37, 38, 39, 40, 50, 51, 52, 53] (by decide +kernel) (by decide +kernel)
set_option maxRecDepth 20000 in
theorem gX2_readWall_X2_readNumber : GoodIn wsX2_readWall (wsV RX2 77 RX2 yX2_readNumber wsX2_readNumber) := goodIn_app (goodIn_of _ (by decide +kernel)) ggX2_readWall_X2_readNumber
set_option maxRecDepth 20000 in
theorem ggX2_readWall_X2_readSemicolon : GoodIn wsX2_readWall wsX2_readSemicolon := goodIn_r _ [28, 13, 14, 15, 16, 11, 17, 18, 19, 20, 21, 22, 23, 24, 1, 35, 36, 37, 38, 39, 40, 50, 51, 52, 53] (by decide +kernel) (by decide +kernel)
set_option maxRecDepth 20000 in
theorem gX2_readWall_X2_readSemicolon : GoodIn wsX2_readWall (wsV RX2 81 RX2 yX2_readSemicolon wsX2_readSemicolon) := goodIn_app (goodIn_of _ (by decide +kernel)) ggX2_readWall_X2_readSemicolon
set_option maxRecDepth 20000 in
theorem ggX2_readWall_X6_addWall : GoodIn wsX2_readWall wsX6_addWall := goodIn_r _ [32, 33, 7, 34, 41, 42, 43, 44, 45, 46, 47, 48, 49] (by decide +kernel) (by decide +kernel)
set_option maxRecDepth 20000 in
theorem gX2_readWall_X6_addWall : GoodIn wsX2_readWall (wsV RX2 84 RX6 yX6_addWall wsX6_addWall) := goodIn_app (goodIn_of _ (by decide +kernel)) ggX2_readWall_X6_addWall
theorem dX2_readWall_0 : decode cX2_readWall 0 = .ok (.aload_n 1, 1) := by decide +kernel
theorem dX2_readWall_1 : decode cX2_readWall 1 = .ok (.invokevirtual 73, 3) := by decide +kernel
theorem dX2_readWall_4 : decode cX2_readWall 4 = .ok (.ifCond .eq 13, 3) := by decide +kernel
theorem dX2_readWall_7 : decode cX2_readWall 7 = .ok (.aload_n 0, 1) := by decide +kernel
theorem dX2_readWall_8 : decode cX2_readWall 8 = .ok (.iconst 0, 1) := by decide +kernel
theorem dX2_readWall_9 : decode cX2_readWall 9 = .ok (.bipush 99, 2) := by decide +kernel
theorem dX2_readWall_11 : decode cX2_readWall 11 = .ok (.invokevirtual 77, 3) := by decide +kernel
theorem dX2_readWall_14 : decode cX2_readWall 14 = .ok (.ifCond .ne 5, 3) := by decide +kernel
theorem dX2_readWall_17 : decode cX2_readWall 17 = .ok (.iconst 0, 1) := by decide +kernel
theorem dX2_readWall_18 : decode cX2_readWall 18 = .ok (.ireturn, 1) := by decide +kernel
theorem dX2_readWall_19 : decode cX2_readWall 19 = .ok (.aload_n 0, 1) := by decide +kernel
theorem dX2_readWall_20 : decode cX2_readWall 20 = .ok (.getfield 59, 3) := by decide +kernel
theorem dX2_readWall_23 : decode cX2_readWall 23 = .ok (.istore_n 2, 1) := by decide +kernel
theorem dX2_readWall_24 : decode cX2_readWall 24 = .ok (.aload_n 0, 1) := by decide +kernel
theorem dX2_readWall_25 : decode cX2_readWall 25 = .ok (.iconst 0, 1) := by decide +kernel
theorem dX2_readWall_26 : decode cX2_readWall 26 = .ok (.bipush 9, 2) := by decide +kernel
theorem dX2_readWall_28 : decode cX2_readWall 28 = .ok (.invokevirtual 77, 3) := by decide +kernel
theorem dX2_readWall_31 : decode cX2_readWall 31 = .ok (.ifCond .ne 5, 3) := by decide +kernel
theorem dX2_readWall_34 : decode cX2_readWall 34 = .ok (.iconst 0, 1) := by decide +kernel
theorem dX2_readWall_35 : decode cX2_readWall 35 = .ok (.ireturn, 1) := by decide +kernel
theorem dX2_readWall_36 : decode cX2_readWall 36 = .ok (.aload_n 0, 1) := by decide +kernel
theorem dX2_readWall_37 : decode cX2_readWall 37 = .ok (.getfield 59, 3) := by decide +kernel
theorem dX2_readWall_40 : decode cX2_readWall 40 = .ok (.istore_n 3, 1) := by decide +kernel
theorem dX2_readWall_41 : decode cX2_readWall 41 = .ok (.aload_n 0, 1) := by decide +kernel
theorem dX2_readWall_42 : decode cX2_readWall 42 = .ok (.invokevirtual 81, 3) := by decide +kernel
theorem dX2_readWall_45 : decode cX2_readWall 45 = .ok (.ifCond .ne 5, 3) := by decide +kernel
theorem dX2_readWall_48 : decode cX2_readWall 48 = .ok (.iconst 0, 1) := by decide +kernel
theorem dX2_readWall_49 : decode cX2_readWall 49 = .ok (.ireturn, 1) := by decide +kernel
theorem dX2_readWall_50 : decode cX2_readWall 50 = .ok (.aload_n 1, 1) := by decide +kernel
theorem dX2_readWall_51 : decode cX2_readWall 51 = .ok (.iload_n 2, 1) := by decide +kernel
theorem dX2_readWall_52 : decode cX2_readWall 52 = .ok (.iload_n 3, 1) := by decide +kernel
theorem dX2_readWall_53 : decode cX2_readWall 53 = .ok (.invokevirtual 84, 3) := by decide +kernel
theorem dX2_readWall_56 : decode cX2_readWall 56 = .ok (.iconst 1, 1) := by decide +kernel
theorem dX2_readWall_57 : decode cX2_readWall 57 = .ok (.ireturn, 1) := by decide +kernel
set_option maxRecDepth 20000 in
theorem ggX2_readSees_X2_readNumber : GoodIn wsX2_readSees wsX2_readNumber := goodIn_r _ [7, 8, 2, 9, 10, 11, 6, 12, 13, 14, 15, 16, 17, 18, 19, 48, 49, 50, 51, 52, 53, 54, 55, 56, 57] (by decide +kernel) (by decide +kernel)
set_option maxRecDepth 20000 in
theorem gX2_readSees_X2_readNumber : GoodIn wsX2_readSees (wsV RX2 77 RX2 yX2_readNumber wsX2_readNumber) := goodIn_app (goodIn_of _ (by decide +kernel)) ggX2_readSees_X2_readNumber
set_option maxRecDepth 20000 in
theorem ggX2_readSees_X6_partsLeft : GoodIn wsX2_readSees wsX6_partsLeft := goodIn_r _ [24, 25, 26, 27, 28, 29, 39, 40, 41, 42, 43, 44, 45, 46, 47] (by decide +kernel) (by decide +kernel)
set_option maxRecDepth 20000 in
theorem gX2_readSees_X6_partsLeft : GoodIn wsX2_readSees (wsV RX2 89 RX6 yX6_partsLeft wsX6_partsLeft) := goodIn_app (goodIn_of _ (by decide +kernel)) ggX2_readSees_X6_partsLeft
set_option maxRecDepth 20000 in
theorem ggX2_readSees_X2_readSemicolon : GoodIn wsX2_readSees wsX2_readSemicolon := goodIn_r _ [33, 8, 9, 10, 11, 6, 12, 13, 14, 15, 16, 17, 18, 19, 2, 48, 49, 50, 51, 52, 53, 54, 55, 56, 57] (by decide +kernel) (by decide +kernel)
set_option maxRecDepth 20000 in
theorem gX2_readSees_X2_readSemicolon : GoodIn wsX2_readSees (wsV RX2 81 RX2 yX2_readSemicolon wsX2_readSemicolon) := goodIn_app (goodIn_of _ (by decide +kernel)) ggX2_readSees_X2_readSemicolon
set_option maxRecDepth 20000 in
theorem ggX2_readSees_X6_addParts : GoodIn wsX2_readSees wsX6_addParts := goodIn_r _ [37, 38, 25, 39, 40, 41, 42, 43, 44, 45, 46, 47] (by decide +kernel) (by decide +kernel)
set_option maxRecDepth 20000 in
theorem gX2_readSees_X6_addParts : GoodIn wsX2_readSees (wsV RX2 93 RX6 yX6_addParts wsX6_addParts) := goodIn_app (goodIn_of _ (by decide +kernel)) ggX2_readSees_X6_addParts
theorem dX2_readSees_0 : decode cX2_readSees 0 = .ok (.aload_n 0, 1) := by decide +kernel
theorem dX2_readSees_1 : decode cX2_readSees 1 = .ok (.iconst 0, 1) := by decide +kernel
theorem dX2_readSees_2 : decode cX2_readSees 2 = .ok (.aload_n 1, 1) := by decide +kernel
theorem dX2_readSees_3 : decode cX2_readSees 3 = .ok (.getfield 88, 3) := by decide +kernel
theorem dX2_readSees_6 : decode cX2_readSees 6 = .ok (.iconst 1, 1) := by decide +kernel
theorem dX2_readSees_7 : decode cX2_readSees 7 = .ok (.isub, 1) := by decide +kernel
theorem dX2_readSees_8 : decode cX2_readSees 8 = .ok (.invokevirtual 77, 3) := by decide +kernel
theorem dX2_readSees_11 : decode cX2_readSees 11 = .ok (.ifCond .ne 5, 3) := by decide +kernel
theorem dX2_readSees_14 : decode cX2_readSees 14 = .ok (.iconst 0, 1) := by decide +kernel
theorem dX2_readSees_15 : decode cX2_readSees 15 = .ok (.ireturn, 1) := by decide +kernel
theorem dX2_readSees_16 : decode cX2_readSees 16 = .ok (.aload_n 0, 1) := by decide +kernel
theorem dX2_readSees_17 : decode cX2_readSees 17 = .ok (.getfield 59, 3) := by decide +kernel
theorem dX2_readSees_20 : decode cX2_readSees 20 = .ok (.istore_n 2, 1) := by decide +kernel
theorem dX2_readSees_21 : decode cX2_readSees 21 = .ok (.aload_n 0, 1) := by decide +kernel
theorem dX2_readSees_22 : decode cX2_readSees 22 = .ok (.iconst 0, 1) := by decide +kernel
theorem dX2_readSees_23 : decode cX2_readSees 23 = .ok (.aload_n 1, 1) := by decide +kernel
theorem dX2_readSees_24 : decode cX2_readSees 24 = .ok (.getfield 88, 3) := by decide +kernel
theorem dX2_readSees_27 : decode cX2_readSees 27 = .ok (.iconst 1, 1) := by decide +kernel
theorem dX2_readSees_28 : decode cX2_readSees 28 = .ok (.isub, 1) := by decide +kernel
theorem dX2_readSees_29 : decode cX2_readSees 29 = .ok (.invokevirtual 77, 3) := by decide +kernel
theorem dX2_readSees_32 : decode cX2_readSees 32 = .ok (.ifCond .eq 11, 3) := by decide +kernel
theorem dX2_readSees_35 : decode cX2_readSees 35 = .ok (.aload_n 0, 1) := by decide +kernel
theorem dX2_readSees_36 : decode cX2_readSees 36 = .ok (.getfield 59, 3) := by decide +kernel
theorem dX2_readSees_39 : decode cX2_readSees 39 = .ok (.iload_n 2, 1) := by decide +kernel
theorem dX2_readSees_40 : decode cX2_readSees 40 = .ok (.if_icmp .ne 5, 3) := by decide +kernel
theorem dX2_readSees_43 : decode cX2_readSees 43 = .ok (.iconst 0, 1) := by decide +kernel
theorem dX2_readSees_44 : decode cX2_readSees 44 = .ok (.ireturn, 1) := by decide +kernel
theorem dX2_readSees_45 : decode cX2_readSees 45 = .ok (.aload_n 0, 1) := by decide +kernel
theorem dX2_readSees_46 : decode cX2_readSees 46 = .ok (.getfield 59, 3) := by decide +kernel
theorem dX2_readSees_49 : decode cX2_readSees 49 = .ok (.istore_n 3, 1) := by decide +kernel
theorem dX2_readSees_50 : decode cX2_readSees 50 = .ok (.aload_n 0, 1) := by decide +kernel
theorem dX2_readSees_51 : decode cX2_readSees 51 = .ok (.iconst 1, 1) := by decide +kernel
theorem dX2_readSees_52 : decode cX2_readSees 52 = .ok (.aload_n 1, 1) := by decide +kernel
theorem dX2_readSees_53 : decode cX2_readSees 53 = .ok (.iload_n 2, 1) := by decide +kernel
theorem dX2_readSees_54 : decode cX2_readSees 54 = .ok (.iload_n 3, 1) := by decide +kernel
theorem dX2_readSees_55 : decode cX2_readSees 55 = .ok (.invokevirtual 89, 3) := by decide +kernel
theorem dX2_readSees_58 : decode cX2_readSees 58 = .ok (.invokevirtual 77, 3) := by decide +kernel
theorem dX2_readSees_61 : decode cX2_readSees 61 = .ok (.ifCond .ne 5, 3) := by decide +kernel
theorem dX2_readSees_64 : decode cX2_readSees 64 = .ok (.iconst 0, 1) := by decide +kernel
theorem dX2_readSees_65 : decode cX2_readSees 65 = .ok (.ireturn, 1) := by decide +kernel
theorem dX2_readSees_66 : decode cX2_readSees 66 = .ok (.aload_n 0, 1) := by decide +kernel
theorem dX2_readSees_67 : decode cX2_readSees 67 = .ok (.getfield 59, 3) := by decide +kernel
theorem dX2_readSees_70 : decode cX2_readSees 70 = .ok (.istore 4, 2) := by decide +kernel
theorem dX2_readSees_72 : decode cX2_readSees 72 = .ok (.aload_n 0, 1) := by decide +kernel
theorem dX2_readSees_73 : decode cX2_readSees 73 = .ok (.invokevirtual 81, 3) := by decide +kernel
theorem dX2_readSees_76 : decode cX2_readSees 76 = .ok (.ifCond .ne 5, 3) := by decide +kernel
theorem dX2_readSees_79 : decode cX2_readSees 79 = .ok (.iconst 0, 1) := by decide +kernel
theorem dX2_readSees_80 : decode cX2_readSees 80 = .ok (.ireturn, 1) := by decide +kernel
theorem dX2_readSees_81 : decode cX2_readSees 81 = .ok (.aload_n 1, 1) := by decide +kernel
theorem dX2_readSees_82 : decode cX2_readSees 82 = .ok (.iload_n 2, 1) := by decide +kernel
theorem dX2_readSees_83 : decode cX2_readSees 83 = .ok (.iload_n 3, 1) := by decide +kernel
theorem dX2_readSees_84 : decode cX2_readSees 84 = .ok (.iload 4, 2) := by decide +kernel
theorem dX2_readSees_86 : decode cX2_readSees 86 = .ok (.invokevirtual 93, 3) := by decide +kernel
theorem dX2_readSees_89 : decode cX2_readSees 89 = .ok (.iconst 1, 1) := by decide +kernel
theorem dX2_readSees_90 : decode cX2_readSees 90 = .ok (.ireturn, 1) := by decide +kernel
set_option maxRecDepth 20000 in
theorem ggX2_readWork_X2_readNumber : GoodIn wsX2_readWork wsX2_readNumber := goodIn_r _ [9, 10, 2, 11, 12, 13, 8, 14, 15, 16, 17, 18, 19, 20, 21, 35, 36, 37, 38, 39, 40, 41, 42, 43, 44] (by decide +kernel) (by decide +kernel)
set_option maxRecDepth 20000 in
theorem gX2_readWork_X2_readNumber : GoodIn wsX2_readWork (wsV RX2 77 RX2 yX2_readNumber wsX2_readNumber) := goodIn_app (goodIn_of _ (by decide +kernel)) ggX2_readWork_X2_readNumber
set_option maxRecDepth 20000 in
theorem ggX2_readWork_X2_readSemicolon : GoodIn wsX2_readWork wsX2_readSemicolon := goodIn_r _ [25, 10, 11, 12, 13, 8, 14, 15, 16, 17, 18, 19, 20, 21, 2, 35, 36, 37, 38, 39, 40, 41, 42, 43, 44] (by decide +kernel) (by decide +kernel)
set_option maxRecDepth 20000 in
theorem gX2_readWork_X2_readSemicolon : GoodIn wsX2_readWork (wsV RX2 81 RX2 yX2_readSemicolon wsX2_readSemicolon) := goodIn_app (goodIn_of _ (by decide +kernel)) ggX2_readWork_X2_readSemicolon
theorem dX2_readWork_0 : decode cX2_readWork 0 = .ok (.aload_n 0, 1) := by decide +kernel
theorem dX2_readWork_1 : decode cX2_readWork 1 = .ok (.iconst 0, 1) := by decide +kernel
theorem dX2_readWork_2 : decode cX2_readWork 2 = .ok (.aload_n 1, 1) := by decide +kernel
theorem dX2_readWork_3 : decode cX2_readWork 3 = .ok (.getfield 88, 3) := by decide +kernel
theorem dX2_readWork_6 : decode cX2_readWork 6 = .ok (.iconst 1, 1) := by decide +kernel
theorem dX2_readWork_7 : decode cX2_readWork 7 = .ok (.isub, 1) := by decide +kernel
theorem dX2_readWork_8 : decode cX2_readWork 8 = .ok (.invokevirtual 77, 3) := by decide +kernel
theorem dX2_readWork_11 : decode cX2_readWork 11 = .ok (.ifCond .ne 5, 3) := by decide +kernel
theorem dX2_readWork_14 : decode cX2_readWork 14 = .ok (.iconst 0, 1) := by decide +kernel
theorem dX2_readWork_15 : decode cX2_readWork 15 = .ok (.ireturn, 1) := by decide +kernel
theorem dX2_readWork_16 : decode cX2_readWork 16 = .ok (.aload_n 0, 1) := by decide +kernel
theorem dX2_readWork_17 : decode cX2_readWork 17 = .ok (.getfield 59, 3) := by decide +kernel
theorem dX2_readWork_20 : decode cX2_readWork 20 = .ok (.istore_n 2, 1) := by decide +kernel
theorem dX2_readWork_21 : decode cX2_readWork 21 = .ok (.aload_n 0, 1) := by decide +kernel
theorem dX2_readWork_22 : decode cX2_readWork 22 = .ok (.iconst 0, 1) := by decide +kernel
theorem dX2_readWork_23 : decode cX2_readWork 23 = .ok (.bipush 20, 2) := by decide +kernel
theorem dX2_readWork_25 : decode cX2_readWork 25 = .ok (.invokevirtual 77, 3) := by decide +kernel
theorem dX2_readWork_28 : decode cX2_readWork 28 = .ok (.ifCond .ne 5, 3) := by decide +kernel
theorem dX2_readWork_31 : decode cX2_readWork 31 = .ok (.iconst 0, 1) := by decide +kernel
theorem dX2_readWork_32 : decode cX2_readWork 32 = .ok (.ireturn, 1) := by decide +kernel
theorem dX2_readWork_33 : decode cX2_readWork 33 = .ok (.aload_n 0, 1) := by decide +kernel
theorem dX2_readWork_34 : decode cX2_readWork 34 = .ok (.getfield 59, 3) := by decide +kernel
theorem dX2_readWork_37 : decode cX2_readWork 37 = .ok (.istore_n 3, 1) := by decide +kernel
theorem dX2_readWork_38 : decode cX2_readWork 38 = .ok (.aload_n 0, 1) := by decide +kernel
theorem dX2_readWork_39 : decode cX2_readWork 39 = .ok (.iconst 0, 1) := by decide +kernel
theorem dX2_readWork_40 : decode cX2_readWork 40 = .ok (.bipush 15, 2) := by decide +kernel
theorem dX2_readWork_42 : decode cX2_readWork 42 = .ok (.invokevirtual 77, 3) := by decide +kernel
theorem dX2_readWork_45 : decode cX2_readWork 45 = .ok (.ifCond .ne 5, 3) := by decide +kernel
theorem dX2_readWork_48 : decode cX2_readWork 48 = .ok (.iconst 0, 1) := by decide +kernel
theorem dX2_readWork_49 : decode cX2_readWork 49 = .ok (.ireturn, 1) := by decide +kernel
theorem dX2_readWork_50 : decode cX2_readWork 50 = .ok (.aload_n 0, 1) := by decide +kernel
theorem dX2_readWork_51 : decode cX2_readWork 51 = .ok (.getfield 59, 3) := by decide +kernel
theorem dX2_readWork_54 : decode cX2_readWork 54 = .ok (.istore 4, 2) := by decide +kernel
theorem dX2_readWork_56 : decode cX2_readWork 56 = .ok (.aload_n 0, 1) := by decide +kernel
theorem dX2_readWork_57 : decode cX2_readWork 57 = .ok (.iconst 0, 1) := by decide +kernel
theorem dX2_readWork_58 : decode cX2_readWork 58 = .ok (.bipush 15, 2) := by decide +kernel
theorem dX2_readWork_60 : decode cX2_readWork 60 = .ok (.invokevirtual 77, 3) := by decide +kernel
theorem dX2_readWork_63 : decode cX2_readWork 63 = .ok (.ifCond .ne 5, 3) := by decide +kernel
theorem dX2_readWork_66 : decode cX2_readWork 66 = .ok (.iconst 0, 1) := by decide +kernel
theorem dX2_readWork_67 : decode cX2_readWork 67 = .ok (.ireturn, 1) := by decide +kernel
theorem dX2_readWork_68 : decode cX2_readWork 68 = .ok (.iload 4, 2) := by decide +kernel
theorem dX2_readWork_70 : decode cX2_readWork 70 = .ok (.bipush 16, 2) := by decide +kernel
theorem dX2_readWork_72 : decode cX2_readWork 72 = .ok (.aload_n 0, 1) := by decide +kernel
theorem dX2_readWork_73 : decode cX2_readWork 73 = .ok (.getfield 59, 3) := by decide +kernel
theorem dX2_readWork_76 : decode cX2_readWork 76 = .ok (.imul, 1) := by decide +kernel
theorem dX2_readWork_77 : decode cX2_readWork 77 = .ok (.iadd, 1) := by decide +kernel
theorem dX2_readWork_78 : decode cX2_readWork 78 = .ok (.istore 4, 2) := by decide +kernel
theorem dX2_readWork_80 : decode cX2_readWork 80 = .ok (.aload_n 0, 1) := by decide +kernel
theorem dX2_readWork_81 : decode cX2_readWork 81 = .ok (.invokevirtual 81, 3) := by decide +kernel
theorem dX2_readWork_84 : decode cX2_readWork 84 = .ok (.ifCond .ne 5, 3) := by decide +kernel
theorem dX2_readWork_87 : decode cX2_readWork 87 = .ok (.iconst 0, 1) := by decide +kernel
theorem dX2_readWork_88 : decode cX2_readWork 88 = .ok (.ireturn, 1) := by decide +kernel
theorem dX2_readWork_89 : decode cX2_readWork 89 = .ok (.aload_n 1, 1) := by decide +kernel
theorem dX2_readWork_90 : decode cX2_readWork 90 = .ok (.getfield 97, 3) := by decide +kernel
theorem dX2_readWork_93 : decode cX2_readWork 93 = .ok (.iload_n 2, 1) := by decide +kernel
theorem dX2_readWork_94 : decode cX2_readWork 94 = .ok (.iload_n 3, 1) := by decide +kernel
theorem dX2_readWork_95 : decode cX2_readWork 95 = .ok (.iastore, 1) := by decide +kernel
theorem dX2_readWork_96 : decode cX2_readWork 96 = .ok (.aload_n 1, 1) := by decide +kernel
theorem dX2_readWork_97 : decode cX2_readWork 97 = .ok (.getfield 100, 3) := by decide +kernel
theorem dX2_readWork_100 : decode cX2_readWork 100 = .ok (.iload_n 2, 1) := by decide +kernel
theorem dX2_readWork_101 : decode cX2_readWork 101 = .ok (.iload 4, 2) := by decide +kernel
theorem dX2_readWork_103 : decode cX2_readWork 103 = .ok (.iastore, 1) := by decide +kernel
theorem dX2_readWork_104 : decode cX2_readWork 104 = .ok (.iconst 1, 1) := by decide +kernel
theorem dX2_readWork_105 : decode cX2_readWork 105 = .ok (.ireturn, 1) := by decide +kernel
set_option maxRecDepth 20000 in
theorem ggX2_readLimit_X2_readNumber : GoodIn wsX2_readLimit wsX2_readNumber := goodIn_r _ [7, 8, 2, 9, 10, 11, 6, 12, 13, 14, 15, 16, 17, 18, 19, 30, 31, 32, 33, 34, 35, 36, 37, 38, 39] (by decide +kernel) (by decide +kernel)
set_option maxRecDepth 20000 in
theorem gX2_readLimit_X2_readNumber : GoodIn wsX2_readLimit (wsV RX2 77 RX2 yX2_readNumber wsX2_readNumber) := goodIn_app (goodIn_of _ (by decide +kernel)) ggX2_readLimit_X2_readNumber
set_option maxRecDepth 20000 in
theorem ggX2_readLimit_X2_readSemicolon : GoodIn wsX2_readLimit wsX2_readSemicolon := goodIn_r _ [23, 8, 9, 10, 11, 6, 12, 13, 14, 15, 16, 17, 18, 19, 2, 30, 31, 32, 33, 34, 35, 36, 37, 38, 39] (by decide +kernel) (by decide +kernel)
set_option maxRecDepth 20000 in
theorem gX2_readLimit_X2_readSemicolon : GoodIn wsX2_readLimit (wsV RX2 81 RX2 yX2_readSemicolon wsX2_readSemicolon) := goodIn_app (goodIn_of _ (by decide +kernel)) ggX2_readLimit_X2_readSemicolon
set_option maxRecDepth 20000 in
theorem ggX2_readLimit_X6_setLimit : GoodIn wsX2_readLimit wsX6_setLimit := goodIn_r _ [28, 29, 40, 41, 42, 43, 44, 45, 46, 47, 48] (by decide +kernel) (by decide +kernel)
set_option maxRecDepth 20000 in
theorem gX2_readLimit_X6_setLimit : GoodIn wsX2_readLimit (wsV RX2 103 RX6 yX6_setLimit wsX6_setLimit) := goodIn_app (goodIn_of _ (by decide +kernel)) ggX2_readLimit_X6_setLimit
theorem dX2_readLimit_0 : decode cX2_readLimit 0 = .ok (.aload_n 0, 1) := by decide +kernel
theorem dX2_readLimit_1 : decode cX2_readLimit 1 = .ok (.getfield 31, 3) := by decide +kernel
theorem dX2_readLimit_4 : decode cX2_readLimit 4 = .ok (.ifCond .ne 13, 3) := by decide +kernel
theorem dX2_readLimit_7 : decode cX2_readLimit 7 = .ok (.aload_n 0, 1) := by decide +kernel
theorem dX2_readLimit_8 : decode cX2_readLimit 8 = .ok (.iconst 0, 1) := by decide +kernel
theorem dX2_readLimit_9 : decode cX2_readLimit 9 = .ok (.bipush 99, 2) := by decide +kernel
theorem dX2_readLimit_11 : decode cX2_readLimit 11 = .ok (.invokevirtual 77, 3) := by decide +kernel
theorem dX2_readLimit_14 : decode cX2_readLimit 14 = .ok (.ifCond .ne 5, 3) := by decide +kernel
theorem dX2_readLimit_17 : decode cX2_readLimit 17 = .ok (.iconst 0, 1) := by decide +kernel
theorem dX2_readLimit_18 : decode cX2_readLimit 18 = .ok (.ireturn, 1) := by decide +kernel
theorem dX2_readLimit_19 : decode cX2_readLimit 19 = .ok (.aload_n 0, 1) := by decide +kernel
theorem dX2_readLimit_20 : decode cX2_readLimit 20 = .ok (.getfield 59, 3) := by decide +kernel
theorem dX2_readLimit_23 : decode cX2_readLimit 23 = .ok (.istore_n 2, 1) := by decide +kernel
theorem dX2_readLimit_24 : decode cX2_readLimit 24 = .ok (.aload_n 0, 1) := by decide +kernel
theorem dX2_readLimit_25 : decode cX2_readLimit 25 = .ok (.invokevirtual 81, 3) := by decide +kernel
theorem dX2_readLimit_28 : decode cX2_readLimit 28 = .ok (.ifCond .ne 5, 3) := by decide +kernel
theorem dX2_readLimit_31 : decode cX2_readLimit 31 = .ok (.iconst 0, 1) := by decide +kernel
theorem dX2_readLimit_32 : decode cX2_readLimit 32 = .ok (.ireturn, 1) := by decide +kernel
theorem dX2_readLimit_33 : decode cX2_readLimit 33 = .ok (.aload_n 1, 1) := by decide +kernel
theorem dX2_readLimit_34 : decode cX2_readLimit 34 = .ok (.iload_n 2, 1) := by decide +kernel
theorem dX2_readLimit_35 : decode cX2_readLimit 35 = .ok (.invokevirtual 103, 3) := by decide +kernel
theorem dX2_readLimit_38 : decode cX2_readLimit 38 = .ok (.aload_n 0, 1) := by decide +kernel
theorem dX2_readLimit_39 : decode cX2_readLimit 39 = .ok (.iconst 1, 1) := by decide +kernel
theorem dX2_readLimit_40 : decode cX2_readLimit 40 = .ok (.putfield 31, 3) := by decide +kernel
theorem dX2_readLimit_43 : decode cX2_readLimit 43 = .ok (.iconst 1, 1) := by decide +kernel
theorem dX2_readLimit_44 : decode cX2_readLimit 44 = .ok (.ireturn, 1) := by decide +kernel
theorem dX3_init_0 : decode cX3_init 0 = .ok (.aload_n 0, 1) := by decide +kernel
theorem dX3_init_1 : decode cX3_init 1 = .ok (.invokespecial 3, 3) := by decide +kernel
theorem dX3_init_4 : decode cX3_init 4 = .ok (.aload_n 0, 1) := by decide +kernel
theorem dX3_init_5 : decode cX3_init 5 = .ok (.bipush 8, 2) := by decide +kernel
theorem dX3_init_7 : decode cX3_init 7 = .ok (.newarray .int, 2) := by decide +kernel
theorem dX3_init_9 : decode cX3_init 9 = .ok (.putfield 9, 3) := by decide +kernel
theorem dX3_init_12 : decode cX3_init 12 = .ok (.aload_n 0, 1) := by decide +kernel
theorem dX3_init_13 : decode cX3_init 13 = .ok (.bipush 8, 2) := by decide +kernel
theorem dX3_init_15 : decode cX3_init 15 = .ok (.newarray .int, 2) := by decide +kernel
theorem dX3_init_17 : decode cX3_init 17 = .ok (.putfield 15, 3) := by decide +kernel
theorem dX3_init_20 : decode cX3_init 20 = .ok (.aload_n 0, 1) := by decide +kernel
theorem dX3_init_21 : decode cX3_init 21 = .ok (.bipush 8, 2) := by decide +kernel
theorem dX3_init_23 : decode cX3_init 23 = .ok (.newarray .int, 2) := by decide +kernel
theorem dX3_init_25 : decode cX3_init 25 = .ok (.putfield 18, 3) := by decide +kernel
theorem dX3_init_28 : decode cX3_init 28 = .ok (.return_, 1) := by decide +kernel
theorem dX3_add_0 : decode cX3_add 0 = .ok (.aload_n 0, 1) := by decide +kernel
theorem dX3_add_1 : decode cX3_add 1 = .ok (.getfield 21, 3) := by decide +kernel
theorem dX3_add_4 : decode cX3_add 4 = .ok (.bipush 8, 2) := by decide +kernel
theorem dX3_add_6 : decode cX3_add 6 = .ok (.if_icmp .ge 43, 3) := by decide +kernel
theorem dX3_add_9 : decode cX3_add 9 = .ok (.aload_n 0, 1) := by decide +kernel
theorem dX3_add_10 : decode cX3_add 10 = .ok (.getfield 9, 3) := by decide +kernel
theorem dX3_add_13 : decode cX3_add 13 = .ok (.aload_n 0, 1) := by decide +kernel
theorem dX3_add_14 : decode cX3_add 14 = .ok (.getfield 21, 3) := by decide +kernel
theorem dX3_add_17 : decode cX3_add 17 = .ok (.iload_n 1, 1) := by decide +kernel
theorem dX3_add_18 : decode cX3_add 18 = .ok (.iastore, 1) := by decide +kernel
theorem dX3_add_19 : decode cX3_add 19 = .ok (.aload_n 0, 1) := by decide +kernel
theorem dX3_add_20 : decode cX3_add 20 = .ok (.getfield 15, 3) := by decide +kernel
theorem dX3_add_23 : decode cX3_add 23 = .ok (.aload_n 0, 1) := by decide +kernel
theorem dX3_add_24 : decode cX3_add 24 = .ok (.getfield 21, 3) := by decide +kernel
theorem dX3_add_27 : decode cX3_add 27 = .ok (.iload_n 2, 1) := by decide +kernel
theorem dX3_add_28 : decode cX3_add 28 = .ok (.iastore, 1) := by decide +kernel
theorem dX3_add_29 : decode cX3_add 29 = .ok (.aload_n 0, 1) := by decide +kernel
theorem dX3_add_30 : decode cX3_add 30 = .ok (.getfield 18, 3) := by decide +kernel
theorem dX3_add_33 : decode cX3_add 33 = .ok (.aload_n 0, 1) := by decide +kernel
theorem dX3_add_34 : decode cX3_add 34 = .ok (.getfield 21, 3) := by decide +kernel
theorem dX3_add_37 : decode cX3_add 37 = .ok (.iload_n 3, 1) := by decide +kernel
theorem dX3_add_38 : decode cX3_add 38 = .ok (.iastore, 1) := by decide +kernel
theorem dX3_add_39 : decode cX3_add 39 = .ok (.aload_n 0, 1) := by decide +kernel
theorem dX3_add_40 : decode cX3_add 40 = .ok (.dup, 1) := by decide +kernel
theorem dX3_add_41 : decode cX3_add 41 = .ok (.getfield 21, 3) := by decide +kernel
theorem dX3_add_44 : decode cX3_add 44 = .ok (.iconst 1, 1) := by decide +kernel
theorem dX3_add_45 : decode cX3_add 45 = .ok (.iadd, 1) := by decide +kernel
theorem dX3_add_46 : decode cX3_add 46 = .ok (.putfield 21, 3) := by decide +kernel
theorem dX3_add_49 : decode cX3_add 49 = .ok (.return_, 1) := by decide +kernel
theorem dX3_latest_0 : decode cX3_latest 0 = .ok (.bipush (-9), 2) := by decide +kernel
theorem dX3_latest_2 : decode cX3_latest 2 = .ok (.istore_n 1, 1) := by decide +kernel
theorem dX3_latest_3 : decode cX3_latest 3 = .ok (.iconst 0, 1) := by decide +kernel
theorem dX3_latest_4 : decode cX3_latest 4 = .ok (.istore_n 2, 1) := by decide +kernel
theorem dX3_latest_5 : decode cX3_latest 5 = .ok (.iload_n 2, 1) := by decide +kernel
theorem dX3_latest_6 : decode cX3_latest 6 = .ok (.aload_n 0, 1) := by decide +kernel
theorem dX3_latest_7 : decode cX3_latest 7 = .ok (.getfield 21, 3) := by decide +kernel
theorem dX3_latest_10 : decode cX3_latest 10 = .ok (.if_icmp .ge 20, 3) := by decide +kernel
theorem dX3_latest_13 : decode cX3_latest 13 = .ok (.iload_n 1, 1) := by decide +kernel
theorem dX3_latest_14 : decode cX3_latest 14 = .ok (.aload_n 0, 1) := by decide +kernel
theorem dX3_latest_15 : decode cX3_latest 15 = .ok (.getfield 9, 3) := by decide +kernel
theorem dX3_latest_18 : decode cX3_latest 18 = .ok (.iload_n 2, 1) := by decide +kernel
theorem dX3_latest_19 : decode cX3_latest 19 = .ok (.iaload, 1) := by decide +kernel
theorem dX3_latest_20 : decode cX3_latest 20 = .ok (.invokestatic 25, 3) := by decide +kernel
theorem dX3_latest_23 : decode cX3_latest 23 = .ok (.istore_n 1, 1) := by decide +kernel
theorem dX3_latest_24 : decode cX3_latest 24 = .ok (.iinc 2 1, 3) := by decide +kernel
theorem dX3_latest_27 : decode cX3_latest 27 = .ok (.goto (-22), 3) := by decide +kernel
theorem dX3_latest_30 : decode cX3_latest 30 = .ok (.iload_n 1, 1) := by decide +kernel
theorem dX3_latest_31 : decode cX3_latest 31 = .ok (.ireturn, 1) := by decide +kernel
theorem dX3_areSo_0 : decode cX3_areSo 0 = .ok (.iconst 0, 1) := by decide +kernel
theorem dX3_areSo_1 : decode cX3_areSo 1 = .ok (.istore_n 3, 1) := by decide +kernel
theorem dX3_areSo_2 : decode cX3_areSo 2 = .ok (.iload_n 3, 1) := by decide +kernel
theorem dX3_areSo_3 : decode cX3_areSo 3 = .ok (.aload_n 0, 1) := by decide +kernel
theorem dX3_areSo_4 : decode cX3_areSo 4 = .ok (.getfield 21, 3) := by decide +kernel
theorem dX3_areSo_7 : decode cX3_areSo 7 = .ok (.if_icmp .ge 41, 3) := by decide +kernel
theorem dX3_areSo_10 : decode cX3_areSo 10 = .ok (.aload_n 0, 1) := by decide +kernel
theorem dX3_areSo_11 : decode cX3_areSo 11 = .ok (.getfield 9, 3) := by decide +kernel
theorem dX3_areSo_14 : decode cX3_areSo 14 = .ok (.iload_n 3, 1) := by decide +kernel
theorem dX3_areSo_15 : decode cX3_areSo 15 = .ok (.iaload, 1) := by decide +kernel
theorem dX3_areSo_16 : decode cX3_areSo 16 = .ok (.iload_n 1, 1) := by decide +kernel
theorem dX3_areSo_17 : decode cX3_areSo 17 = .ok (.if_icmp .ne 25, 3) := by decide +kernel
theorem dX3_areSo_20 : decode cX3_areSo 20 = .ok (.aload_n 2, 1) := by decide +kernel
theorem dX3_areSo_21 : decode cX3_areSo 21 = .ok (.getfield 31, 3) := by decide +kernel
theorem dX3_areSo_24 : decode cX3_areSo 24 = .ok (.aload_n 0, 1) := by decide +kernel
theorem dX3_areSo_25 : decode cX3_areSo 25 = .ok (.getfield 15, 3) := by decide +kernel
theorem dX3_areSo_28 : decode cX3_areSo 28 = .ok (.iload_n 3, 1) := by decide +kernel
theorem dX3_areSo_29 : decode cX3_areSo 29 = .ok (.iaload, 1) := by decide +kernel
theorem dX3_areSo_30 : decode cX3_areSo 30 = .ok (.iaload, 1) := by decide +kernel
theorem dX3_areSo_31 : decode cX3_areSo 31 = .ok (.aload_n 0, 1) := by decide +kernel
theorem dX3_areSo_32 : decode cX3_areSo 32 = .ok (.getfield 18, 3) := by decide +kernel
theorem dX3_areSo_35 : decode cX3_areSo 35 = .ok (.iload_n 3, 1) := by decide +kernel
theorem dX3_areSo_36 : decode cX3_areSo 36 = .ok (.iaload, 1) := by decide +kernel
theorem dX3_areSo_37 : decode cX3_areSo 37 = .ok (.if_icmp .eq 5, 3) := by decide +kernel
theorem dX3_areSo_40 : decode cX3_areSo 40 = .ok (.iconst 0, 1) := by decide +kernel
theorem dX3_areSo_41 : decode cX3_areSo 41 = .ok (.ireturn, 1) := by decide +kernel
theorem dX3_areSo_42 : decode cX3_areSo 42 = .ok (.iinc 3 1, 3) := by decide +kernel
theorem dX3_areSo_45 : decode cX3_areSo 45 = .ok (.goto (-43), 3) := by decide +kernel
theorem dX3_areSo_48 : decode cX3_areSo 48 = .ok (.iconst 1, 1) := by decide +kernel
theorem dX3_areSo_49 : decode cX3_areSo 49 = .ok (.ireturn, 1) := by decide +kernel
theorem dX4_init_0 : decode cX4_init 0 = .ok (.aload_n 0, 1) := by decide +kernel
theorem dX4_init_1 : decode cX4_init 1 = .ok (.invokespecial 1, 3) := by decide +kernel
theorem dX4_init_4 : decode cX4_init 4 = .ok (.aload_n 0, 1) := by decide +kernel
theorem dX4_init_5 : decode cX4_init 5 = .ok (.sipush 250, 3) := by decide +kernel
theorem dX4_init_8 : decode cX4_init 8 = .ok (.newarray .byte, 2) := by decide +kernel
theorem dX4_init_10 : decode cX4_init 10 = .ok (.putfield 9, 3) := by decide +kernel
theorem dX4_init_13 : decode cX4_init 13 = .ok (.return_, 1) := by decide +kernel
theorem dX4_hasRoomFor_0 : decode cX4_hasRoomFor 0 = .ok (.iload_n 1, 1) := by decide +kernel
theorem dX4_hasRoomFor_1 : decode cX4_hasRoomFor 1 = .ok (.sipush 250, 3) := by decide +kernel
theorem dX4_hasRoomFor_4 : decode cX4_hasRoomFor 4 = .ok (.aload_n 0, 1) := by decide +kernel
theorem dX4_hasRoomFor_5 : decode cX4_hasRoomFor 5 = .ok (.getfield 13, 3) := by decide +kernel
theorem dX4_hasRoomFor_8 : decode cX4_hasRoomFor 8 = .ok (.isub, 1) := by decide +kernel
theorem dX4_hasRoomFor_9 : decode cX4_hasRoomFor 9 = .ok (.if_icmp .gt 7, 3) := by decide +kernel
theorem dX4_hasRoomFor_12 : decode cX4_hasRoomFor 12 = .ok (.iconst 1, 1) := by decide +kernel
theorem dX4_hasRoomFor_13 : decode cX4_hasRoomFor 13 = .ok (.goto 4, 3) := by decide +kernel
theorem dX4_hasRoomFor_16 : decode cX4_hasRoomFor 16 = .ok (.iconst 0, 1) := by decide +kernel
theorem dX4_hasRoomFor_17 : decode cX4_hasRoomFor 17 = .ok (.ireturn, 1) := by decide +kernel
theorem dX4_append_0 : decode cX4_append 0 = .ok (.iload_n 3, 1) := by decide +kernel
theorem dX4_append_1 : decode cX4_append 1 = .ok (.iconst 1, 1) := by decide +kernel
theorem dX4_append_2 : decode cX4_append 2 = .ok (.isub, 1) := by decide +kernel
theorem dX4_append_3 : decode cX4_append 3 = .ok (.istore 4, 2) := by decide +kernel
theorem dX4_append_5 : decode cX4_append 5 = .ok (.iload 4, 2) := by decide +kernel
theorem dX4_append_7 : decode cX4_append 7 = .ok (.ifCond .lt 47, 3) := by decide +kernel
theorem dX4_append_10 : decode cX4_append 10 = .ok (.aload_n 0, 1) := by decide +kernel
theorem dX4_append_11 : decode cX4_append 11 = .ok (.getfield 13, 3) := by decide +kernel
theorem dX4_append_14 : decode cX4_append 14 = .ok (.sipush 250, 3) := by decide +kernel
theorem dX4_append_17 : decode cX4_append 17 = .ok (.if_icmp .ge 37, 3) := by decide +kernel
theorem dX4_append_20 : decode cX4_append 20 = .ok (.aload_n 0, 1) := by decide +kernel
theorem dX4_append_21 : decode cX4_append 21 = .ok (.getfield 9, 3) := by decide +kernel
theorem dX4_append_24 : decode cX4_append 24 = .ok (.aload_n 0, 1) := by decide +kernel
theorem dX4_append_25 : decode cX4_append 25 = .ok (.getfield 13, 3) := by decide +kernel
theorem dX4_append_28 : decode cX4_append 28 = .ok (.lload_n 1, 1) := by decide +kernel
theorem dX4_append_29 : decode cX4_append 29 = .ok (.bipush 8, 2) := by decide +kernel
theorem dX4_append_31 : decode cX4_append 31 = .ok (.iload 4, 2) := by decide +kernel
theorem dX4_append_33 : decode cX4_append 33 = .ok (.imul, 1) := by decide +kernel
theorem dX4_append_34 : decode cX4_append 34 = .ok (.lushr, 1) := by decide +kernel
theorem dX4_append_35 : decode cX4_append 35 = .ok (.l2i, 1) := by decide +kernel
theorem dX4_append_36 : decode cX4_append 36 = .ok (.i2b, 1) := by decide +kernel
theorem dX4_append_37 : decode cX4_append 37 = .ok (.bastore, 1) := by decide +kernel
theorem dX4_append_38 : decode cX4_append 38 = .ok (.aload_n 0, 1) := by decide +kernel
theorem dX4_append_39 : decode cX4_append 39 = .ok (.dup, 1) := by decide +kernel
theorem dX4_append_40 : decode cX4_append 40 = .ok (.getfield 13, 3) := by decide +kernel
theorem dX4_append_43 : decode cX4_append 43 = .ok (.iconst 1, 1) := by decide +kernel
theorem dX4_append_44 : decode cX4_append 44 = .ok (.iadd, 1) := by decide +kernel
theorem dX4_append_45 : decode cX4_append 45 = .ok (.putfield 13, 3) := by decide +kernel
theorem dX4_append_48 : decode cX4_append 48 = .ok (.iinc 4 (-1), 3) := by decide +kernel
theorem dX4_append_51 : decode cX4_append 51 = .ok (.goto (-46), 3) := by decide +kernel
theorem dX4_append_54 : decode cX4_append 54 = .ok (.return_, 1) := by decide +kernel
theorem dX4_isLetter_0 : decode cX4_isLetter 0 = .ok (.iload_n 1, 1) := by decide +kernel
theorem dX4_isLetter_1 : decode cX4_isLetter 1 = .ok (.aload_n 0, 1) := by decide +kernel
theorem dX4_isLetter_2 : decode cX4_isLetter 2 = .ok (.getfield 13, 3) := by decide +kernel
theorem dX4_isLetter_5 : decode cX4_isLetter 5 = .ok (.if_icmp .ge 29, 3) := by decide +kernel
theorem dX4_isLetter_8 : decode cX4_isLetter 8 = .ok (.aload_n 0, 1) := by decide +kernel
theorem dX4_isLetter_9 : decode cX4_isLetter 9 = .ok (.getfield 9, 3) := by decide +kernel
theorem dX4_isLetter_12 : decode cX4_isLetter 12 = .ok (.iload_n 1, 1) := by decide +kernel
theorem dX4_isLetter_13 : decode cX4_isLetter 13 = .ok (.baload, 1) := by decide +kernel
theorem dX4_isLetter_14 : decode cX4_isLetter 14 = .ok (.bipush 97, 2) := by decide +kernel
theorem dX4_isLetter_16 : decode cX4_isLetter 16 = .ok (.if_icmp .lt 18, 3) := by decide +kernel
theorem dX4_isLetter_19 : decode cX4_isLetter 19 = .ok (.aload_n 0, 1) := by decide +kernel
theorem dX4_isLetter_20 : decode cX4_isLetter 20 = .ok (.getfield 9, 3) := by decide +kernel
theorem dX4_isLetter_23 : decode cX4_isLetter 23 = .ok (.iload_n 1, 1) := by decide +kernel
theorem dX4_isLetter_24 : decode cX4_isLetter 24 = .ok (.baload, 1) := by decide +kernel
theorem dX4_isLetter_25 : decode cX4_isLetter 25 = .ok (.bipush 122, 2) := by decide +kernel
theorem dX4_isLetter_27 : decode cX4_isLetter 27 = .ok (.if_icmp .gt 7, 3) := by decide +kernel
theorem dX4_isLetter_30 : decode cX4_isLetter 30 = .ok (.iconst 1, 1) := by decide +kernel
theorem dX4_isLetter_31 : decode cX4_isLetter 31 = .ok (.goto 4, 3) := by decide +kernel
theorem dX4_isLetter_34 : decode cX4_isLetter 34 = .ok (.iconst 0, 1) := by decide +kernel
theorem dX4_isLetter_35 : decode cX4_isLetter 35 = .ok (.ireturn, 1) := by decide +kernel
theorem dX4_isDigit_0 : decode cX4_isDigit 0 = .ok (.iload_n 1, 1) := by decide +kernel
theorem dX4_isDigit_1 : decode cX4_isDigit 1 = .ok (.aload_n 0, 1) := by decide +kernel
theorem dX4_isDigit_2 : decode cX4_isDigit 2 = .ok (.getfield 13, 3) := by decide +kernel
theorem dX4_isDigit_5 : decode cX4_isDigit 5 = .ok (.if_icmp .ge 29, 3) := by decide +kernel
theorem dX4_isDigit_8 : decode cX4_isDigit 8 = .ok (.aload_n 0, 1) := by decide +kernel
theorem dX4_isDigit_9 : decode cX4_isDigit 9 = .ok (.getfield 9, 3) := by decide +kernel
theorem dX4_isDigit_12 : decode cX4_isDigit 12 = .ok (.iload_n 1, 1) := by decide +kernel
theorem dX4_isDigit_13 : decode cX4_isDigit 13 = .ok (.baload, 1) := by decide +kernel
theorem dX4_isDigit_14 : decode cX4_isDigit 14 = .ok (.bipush 48, 2) := by decide +kernel
theorem dX4_isDigit_16 : decode cX4_isDigit 16 = .ok (.if_icmp .lt 18, 3) := by decide +kernel
theorem dX4_isDigit_19 : decode cX4_isDigit 19 = .ok (.aload_n 0, 1) := by decide +kernel
theorem dX4_isDigit_20 : decode cX4_isDigit 20 = .ok (.getfield 9, 3) := by decide +kernel
theorem dX4_isDigit_23 : decode cX4_isDigit 23 = .ok (.iload_n 1, 1) := by decide +kernel
theorem dX4_isDigit_24 : decode cX4_isDigit 24 = .ok (.baload, 1) := by decide +kernel
theorem dX4_isDigit_25 : decode cX4_isDigit 25 = .ok (.bipush 57, 2) := by decide +kernel
theorem dX4_isDigit_27 : decode cX4_isDigit 27 = .ok (.if_icmp .gt 7, 3) := by decide +kernel
theorem dX4_isDigit_30 : decode cX4_isDigit 30 = .ok (.iconst 1, 1) := by decide +kernel
theorem dX4_isDigit_31 : decode cX4_isDigit 31 = .ok (.goto 4, 3) := by decide +kernel
theorem dX4_isDigit_34 : decode cX4_isDigit 34 = .ok (.iconst 0, 1) := by decide +kernel
theorem dX4_isDigit_35 : decode cX4_isDigit 35 = .ok (.ireturn, 1) := by decide +kernel
set_option maxRecDepth 20000 in
theorem ggX4_isWord_J0_length_8abf5 : GoodIn wsX4_isWord wsJ0_length_8abf5 := goodIn_r _ [6, 7, 8, 9, 10, 5, 11, 12, 13] (by decide +kernel) (by decide +kernel)
set_option maxRecDepth 20000 in
theorem gX4_isWord_J0_length_8abf5 : GoodIn wsX4_isWord (wsV RX4 17 RJ0 yJ0_length_8abf5 wsJ0_length_8abf5) := goodIn_app (goodIn_of _ (by decide +kernel)) ggX4_isWord_J0_length_8abf5
set_option maxRecDepth 20000 in
theorem ggX4_isWord_J0_charAt_5068e : GoodIn wsX4_isWord wsJ0_charAt_5068e := goodIn_r _ [17, 7, 18, 19, 20, 5, 21, 12, 13, 22, 23, 24, 25, 26, 27, 28, 29, 30, 31, 32, 33, 34, 35, 36, 37, 38, 39, 40, 41, 42, 43, 44, 45, 46, 47, 48, 49, 50] (by decide +kernel) (by decide +kernel)
set_option maxRecDepth 20000 in
theorem gX4_isWord_J0_charAt_5068e : GoodIn wsX4_isWord (wsV RX4 22 RJ0 yJ0_charAt_5068e wsJ0_charAt_5068e) := goodIn_app (goodIn_of _ (by decide +kernel)) ggX4_isWord_J0_charAt_5068e
theorem dX4_isWord_0 : decode cX4_isWord 0 = .ok (.iload_n 3, 1) := by decide +kernel
theorem dX4_isWord_1 : decode cX4_isWord 1 = .ok (.iload_n 2, 1) := by decide +kernel
theorem dX4_isWord_2 : decode cX4_isWord 2 = .ok (.isub, 1) := by decide +kernel
theorem dX4_isWord_3 : decode cX4_isWord 3 = .ok (.aload_n 1, 1) := by decide +kernel
theorem dX4_isWord_4 : decode cX4_isWord 4 = .ok (.invokevirtual 17, 3) := by decide +kernel
theorem dX4_isWord_7 : decode cX4_isWord 7 = .ok (.if_icmp .eq 5, 3) := by decide +kernel
theorem dX4_isWord_10 : decode cX4_isWord 10 = .ok (.iconst 0, 1) := by decide +kernel
theorem dX4_isWord_11 : decode cX4_isWord 11 = .ok (.ireturn, 1) := by decide +kernel
theorem dX4_isWord_12 : decode cX4_isWord 12 = .ok (.iconst 0, 1) := by decide +kernel
theorem dX4_isWord_13 : decode cX4_isWord 13 = .ok (.istore 4, 2) := by decide +kernel
theorem dX4_isWord_15 : decode cX4_isWord 15 = .ok (.iload 4, 2) := by decide +kernel
theorem dX4_isWord_17 : decode cX4_isWord 17 = .ok (.aload_n 1, 1) := by decide +kernel
theorem dX4_isWord_18 : decode cX4_isWord 18 = .ok (.invokevirtual 17, 3) := by decide +kernel
theorem dX4_isWord_21 : decode cX4_isWord 21 = .ok (.if_icmp .ge 29, 3) := by decide +kernel
theorem dX4_isWord_24 : decode cX4_isWord 24 = .ok (.aload_n 0, 1) := by decide +kernel
theorem dX4_isWord_25 : decode cX4_isWord 25 = .ok (.getfield 9, 3) := by decide +kernel
theorem dX4_isWord_28 : decode cX4_isWord 28 = .ok (.iload_n 2, 1) := by decide +kernel
theorem dX4_isWord_29 : decode cX4_isWord 29 = .ok (.iload 4, 2) := by decide +kernel
theorem dX4_isWord_31 : decode cX4_isWord 31 = .ok (.iadd, 1) := by decide +kernel
theorem dX4_isWord_32 : decode cX4_isWord 32 = .ok (.baload, 1) := by decide +kernel
theorem dX4_isWord_33 : decode cX4_isWord 33 = .ok (.aload_n 1, 1) := by decide +kernel
theorem dX4_isWord_34 : decode cX4_isWord 34 = .ok (.iload 4, 2) := by decide +kernel
theorem dX4_isWord_36 : decode cX4_isWord 36 = .ok (.invokevirtual 22, 3) := by decide +kernel
theorem dX4_isWord_39 : decode cX4_isWord 39 = .ok (.if_icmp .eq 5, 3) := by decide +kernel
theorem dX4_isWord_42 : decode cX4_isWord 42 = .ok (.iconst 0, 1) := by decide +kernel
theorem dX4_isWord_43 : decode cX4_isWord 43 = .ok (.ireturn, 1) := by decide +kernel
theorem dX4_isWord_44 : decode cX4_isWord 44 = .ok (.iinc 4 1, 3) := by decide +kernel
theorem dX4_isWord_47 : decode cX4_isWord 47 = .ok (.goto (-32), 3) := by decide +kernel
theorem dX4_isWord_50 : decode cX4_isWord 50 = .ok (.iconst 1, 1) := by decide +kernel
theorem dX4_isWord_51 : decode cX4_isWord 51 = .ok (.ireturn, 1) := by decide +kernel
theorem dX5_init_0 : decode cX5_init 0 = .ok (.aload_n 0, 1) := by decide +kernel
theorem dX5_init_1 : decode cX5_init 1 = .ok (.invokespecial 3, 3) := by decide +kernel
theorem dX5_init_4 : decode cX5_init 4 = .ok (.aload_n 0, 1) := by decide +kernel
theorem dX5_init_5 : decode cX5_init 5 = .ok (.sipush 251, 3) := by decide +kernel
theorem dX5_init_8 : decode cX5_init 8 = .ok (.newarray .int, 2) := by decide +kernel
theorem dX5_init_10 : decode cX5_init 10 = .ok (.putfield 11, 3) := by decide +kernel
theorem dX5_init_13 : decode cX5_init 13 = .ok (.aload_n 0, 1) := by decide +kernel
theorem dX5_init_14 : decode cX5_init 14 = .ok (.sipush 251, 3) := by decide +kernel
theorem dX5_init_17 : decode cX5_init 17 = .ok (.newarray .int, 2) := by decide +kernel
theorem dX5_init_19 : decode cX5_init 19 = .ok (.putfield 15, 3) := by decide +kernel
theorem dX5_init_22 : decode cX5_init 22 = .ok (.aload_n 0, 1) := by decide +kernel
theorem dX5_init_23 : decode cX5_init 23 = .ok (.sipush 251, 3) := by decide +kernel
theorem dX5_init_26 : decode cX5_init 26 = .ok (.newarray .int, 2) := by decide +kernel
theorem dX5_init_28 : decode cX5_init 28 = .ok (.putfield 18, 3) := by decide +kernel
theorem dX5_init_31 : decode cX5_init 31 = .ok (.return_, 1) := by decide +kernel
set_option maxRecDepth 20000 in
theorem ggX5_cut_X5_skipBlanks : GoodIn wsX5_cut wsX5_skipBlanks := goodIn_r _ [7, 2, 8, 100, 101] (by decide +kernel) (by decide +kernel)
set_option maxRecDepth 20000 in
theorem gX5_cut_X5_skipBlanks : GoodIn wsX5_cut (wsV RX5 25 RX5 yX5_skipBlanks wsX5_skipBlanks) := goodIn_app (goodIn_of _ (by decide +kernel)) ggX5_cut_X5_skipBlanks
set_option maxRecDepth 20000 in
theorem ggX5_cut_X5_cutOne : GoodIn wsX5_cut wsX5_cutOne := goodIn_r _ [12, 8, 13, 14, 15, 16, 17, 18, 19, 20, 21, 22, 6, 23, 2, 24, 25, 26, 27, 28, 29, 30, 31, 32, 33, 34, 35, 36, 37, 38, 39, 40, 41, 42, 43, 44, 45, 46, 47, 48, 49, 50, 51, 52, 53, 54, 55, 56, 57, 58, 59, 60, 61, 62, 63, 64, 65, 66, 67, 68, 69, 70, 71, 72, 73, 74, 75, 76, 77, 78, 79, 80, 81, 82, 83, 84, 1, 85, 86, 87, 88, 89, 90, 91, 92, 93, 94, 95, 100, 101, 96, 97, 98, 99] (by decide +kernel) (by decide +kernel)
set_option maxRecDepth 20000 in
theorem gX5_cut_X5_cutOne : GoodIn wsX5_cut (wsV RX5 32 RX5 yX5_cutOne wsX5_cutOne) := goodIn_app (goodIn_of _ (by decide +kernel)) ggX5_cut_X5_cutOne
set_option maxRecDepth 20000 in
theorem ggX5_cut_X5_add : GoodIn wsX5_cut wsX5_add := goodIn_r _ [84, 1, 85, 86, 87, 96, 97, 98, 99] (by decide +kernel) (by decide +kernel)
set_option maxRecDepth 20000 in
theorem gX5_cut_X5_add : GoodIn wsX5_cut (wsV RX5 35 RX5 yX5_add wsX5_add) := goodIn_app (goodIn_of _ (by decide +kernel)) ggX5_cut_X5_add
theorem dX5_cut_0 : decode cX5_cut 0 = .ok (.aload_n 0, 1) := by decide +kernel
theorem dX5_cut_1 : decode cX5_cut 1 = .ok (.iconst 0, 1) := by decide +kernel
theorem dX5_cut_2 : decode cX5_cut 2 = .ok (.putfield 21, 3) := by decide +kernel
theorem dX5_cut_5 : decode cX5_cut 5 = .ok (.aload_n 0, 1) := by decide +kernel
theorem dX5_cut_6 : decode cX5_cut 6 = .ok (.aload_n 1, 1) := by decide +kernel
theorem dX5_cut_7 : decode cX5_cut 7 = .ok (.iconst 0, 1) := by decide +kernel
theorem dX5_cut_8 : decode cX5_cut 8 = .ok (.invokevirtual 25, 3) := by decide +kernel
theorem dX5_cut_11 : decode cX5_cut 11 = .ok (.istore_n 2, 1) := by decide +kernel
theorem dX5_cut_12 : decode cX5_cut 12 = .ok (.iconst 0, 1) := by decide +kernel
theorem dX5_cut_13 : decode cX5_cut 13 = .ok (.istore_n 3, 1) := by decide +kernel
theorem dX5_cut_14 : decode cX5_cut 14 = .ok (.iload_n 3, 1) := by decide +kernel
theorem dX5_cut_15 : decode cX5_cut 15 = .ok (.sipush 250, 3) := by decide +kernel
theorem dX5_cut_18 : decode cX5_cut 18 = .ok (.if_icmp .ge 29, 3) := by decide +kernel
theorem dX5_cut_21 : decode cX5_cut 21 = .ok (.iload_n 2, 1) := by decide +kernel
theorem dX5_cut_22 : decode cX5_cut 22 = .ok (.aload_n 1, 1) := by decide +kernel
theorem dX5_cut_23 : decode cX5_cut 23 = .ok (.getfield 29, 3) := by decide +kernel
theorem dX5_cut_26 : decode cX5_cut 26 = .ok (.if_icmp .ge 21, 3) := by decide +kernel
theorem dX5_cut_29 : decode cX5_cut 29 = .ok (.aload_n 0, 1) := by decide +kernel
theorem dX5_cut_30 : decode cX5_cut 30 = .ok (.aload_n 1, 1) := by decide +kernel
theorem dX5_cut_31 : decode cX5_cut 31 = .ok (.aload_n 0, 1) := by decide +kernel
theorem dX5_cut_32 : decode cX5_cut 32 = .ok (.aload_n 1, 1) := by decide +kernel
theorem dX5_cut_33 : decode cX5_cut 33 = .ok (.iload_n 2, 1) := by decide +kernel
theorem dX5_cut_34 : decode cX5_cut 34 = .ok (.invokevirtual 32, 3) := by decide +kernel
theorem dX5_cut_37 : decode cX5_cut 37 = .ok (.invokevirtual 25, 3) := by decide +kernel
theorem dX5_cut_40 : decode cX5_cut 40 = .ok (.istore_n 2, 1) := by decide +kernel
theorem dX5_cut_41 : decode cX5_cut 41 = .ok (.iinc 3 1, 3) := by decide +kernel
theorem dX5_cut_44 : decode cX5_cut 44 = .ok (.goto (-30), 3) := by decide +kernel
theorem dX5_cut_47 : decode cX5_cut 47 = .ok (.aload_n 0, 1) := by decide +kernel
theorem dX5_cut_48 : decode cX5_cut 48 = .ok (.aload_n 1, 1) := by decide +kernel
theorem dX5_cut_49 : decode cX5_cut 49 = .ok (.getfield 29, 3) := by decide +kernel
theorem dX5_cut_52 : decode cX5_cut 52 = .ok (.iconst 0, 1) := by decide +kernel
theorem dX5_cut_53 : decode cX5_cut 53 = .ok (.iconst 0, 1) := by decide +kernel
theorem dX5_cut_54 : decode cX5_cut 54 = .ok (.invokevirtual 35, 3) := by decide +kernel
theorem dX5_cut_57 : decode cX5_cut 57 = .ok (.return_, 1) := by decide +kernel
theorem dX5_skipBlanks_0 : decode cX5_skipBlanks 0 = .ok (.iload_n 2, 1) := by decide +kernel
theorem dX5_skipBlanks_1 : decode cX5_skipBlanks 1 = .ok (.istore_n 3, 1) := by decide +kernel
theorem dX5_skipBlanks_2 : decode cX5_skipBlanks 2 = .ok (.iload_n 3, 1) := by decide +kernel
theorem dX5_skipBlanks_3 : decode cX5_skipBlanks 3 = .ok (.aload_n 1, 1) := by decide +kernel
theorem dX5_skipBlanks_4 : decode cX5_skipBlanks 4 = .ok (.getfield 29, 3) := by decide +kernel
theorem dX5_skipBlanks_7 : decode cX5_skipBlanks 7 = .ok (.if_icmp .ge 20, 3) := by decide +kernel
theorem dX5_skipBlanks_10 : decode cX5_skipBlanks 10 = .ok (.aload_n 1, 1) := by decide +kernel
theorem dX5_skipBlanks_11 : decode cX5_skipBlanks 11 = .ok (.getfield 39, 3) := by decide +kernel
theorem dX5_skipBlanks_14 : decode cX5_skipBlanks 14 = .ok (.iload_n 3, 1) := by decide +kernel
theorem dX5_skipBlanks_15 : decode cX5_skipBlanks 15 = .ok (.baload, 1) := by decide +kernel
theorem dX5_skipBlanks_16 : decode cX5_skipBlanks 16 = .ok (.bipush 32, 2) := by decide +kernel
theorem dX5_skipBlanks_18 : decode cX5_skipBlanks 18 = .ok (.if_icmp .ne 9, 3) := by decide +kernel
theorem dX5_skipBlanks_21 : decode cX5_skipBlanks 21 = .ok (.iinc 3 1, 3) := by decide +kernel
theorem dX5_skipBlanks_24 : decode cX5_skipBlanks 24 = .ok (.goto (-22), 3) := by decide +kernel
theorem dX5_skipBlanks_27 : decode cX5_skipBlanks 27 = .ok (.iload_n 3, 1) := by decide +kernel
theorem dX5_skipBlanks_28 : decode cX5_skipBlanks 28 = .ok (.ireturn, 1) := by decide +kernel
set_option maxRecDepth 20000 in
theorem ggX5_cutOne_X4_isLetter : GoodIn wsX5_cutOne wsX4_isLetter := goodIn_r _ [6, 7, 8, 88, 89] (by decide +kernel) (by decide +kernel)
set_option maxRecDepth 20000 in
theorem gX5_cutOne_X4_isLetter : GoodIn wsX5_cutOne (wsV RX5 43 RX4 yX4_isLetter wsX4_isLetter) := goodIn_app (goodIn_of _ (by decide +kernel)) ggX5_cutOne_X4_isLetter
set_option maxRecDepth 20000 in
theorem ggX5_cutOne_X5_cutWord : GoodIn wsX5_cutOne wsX5_cutWord := goodIn_r _ [13, 14, 2, 3, 4, 5, 6, 7, 8, 15, 16, 17, 12, 18, 19, 20, 21, 22, 23, 24, 25, 26, 27, 28, 29, 30, 31, 32, 33, 34, 35, 36, 37, 38, 39, 40, 41, 42, 43, 44, 45, 46, 47, 48, 49, 50, 51, 52, 53, 54, 55, 56, 57, 58, 59, 60, 61, 62, 63, 64, 65, 66, 67, 68, 69, 70, 71, 72, 73, 74, 75, 76, 77, 78, 79, 88, 89, 90, 91, 92, 93] (by decide +kernel) (by decide +kernel)
set_option maxRecDepth 20000 in
theorem gX5_cutOne_X5_cutWord : GoodIn wsX5_cutOne (wsV RX5 47 RX5 yX5_cutWord wsX5_cutWord) := goodIn_app (goodIn_of _ (by decide +kernel)) ggX5_cutOne_X5_cutWord
set_option maxRecDepth 20000 in
theorem ggX5_cutOne_X4_isDigit : GoodIn wsX5_cutOne wsX4_isDigit := goodIn_r _ [83, 7, 8, 88, 89] (by decide +kernel) (by decide +kernel)
set_option maxRecDepth 20000 in
theorem gX5_cutOne_X4_isDigit : GoodIn wsX5_cutOne (wsV RX5 50 RX4 yX4_isDigit wsX4_isDigit) := goodIn_app (goodIn_of _ (by decide +kernel)) ggX5_cutOne_X4_isDigit
set_option maxRecDepth 20000 in
theorem ggX5_cutOne_X5_cutNumber : GoodIn wsX5_cutOne wsX5_cutNumber := goodIn_r _ [87, 14, 1, 80, 81, 82, 5, 83, 7, 8, 72, 73, 74, 12, 75, 76, 77, 78, 79, 88, 89, 90, 91, 92, 93] (by decide +kernel) (by decide +kernel)
set_option maxRecDepth 20000 in
theorem gX5_cutOne_X5_cutNumber : GoodIn wsX5_cutOne (wsV RX5 53 RX5 yX5_cutNumber wsX5_cutNumber) := goodIn_app (goodIn_of _ (by decide +kernel)) ggX5_cutOne_X5_cutNumber
set_option maxRecDepth 20000 in
theorem ggX5_cutOne_X5_add : GoodIn wsX5_cutOne wsX5_add := goodIn_r _ [75, 76, 77, 78, 79, 90, 91, 92, 93] (by decide +kernel) (by decide +kernel)
set_option maxRecDepth 20000 in
theorem gX5_cutOne_X5_add : GoodIn wsX5_cutOne (wsV RX5 35 RX5 yX5_add wsX5_add) := goodIn_app (goodIn_of _ (by decide +kernel)) ggX5_cutOne_X5_add
theorem dX5_cutOne_0 : decode cX5_cutOne 0 = .ok (.aload_n 1, 1) := by decide +kernel
theorem dX5_cutOne_1 : decode cX5_cutOne 1 = .ok (.iload_n 2, 1) := by decide +kernel
theorem dX5_cutOne_2 : decode cX5_cutOne 2 = .ok (.invokevirtual 43, 3) := by decide +kernel
theorem dX5_cutOne_5 : decode cX5_cutOne 5 = .ok (.ifCond .eq 10, 3) := by decide +kernel
theorem dX5_cutOne_8 : decode cX5_cutOne 8 = .ok (.aload_n 0, 1) := by decide +kernel
theorem dX5_cutOne_9 : decode cX5_cutOne 9 = .ok (.aload_n 1, 1) := by decide +kernel
theorem dX5_cutOne_10 : decode cX5_cutOne 10 = .ok (.iload_n 2, 1) := by decide +kernel
theorem dX5_cutOne_11 : decode cX5_cutOne 11 = .ok (.invokevirtual 47, 3) := by decide +kernel
theorem dX5_cutOne_14 : decode cX5_cutOne 14 = .ok (.ireturn, 1) := by decide +kernel
theorem dX5_cutOne_15 : decode cX5_cutOne 15 = .ok (.aload_n 1, 1) := by decide +kernel
theorem dX5_cutOne_16 : decode cX5_cutOne 16 = .ok (.iload_n 2, 1) := by decide +kernel
theorem dX5_cutOne_17 : decode cX5_cutOne 17 = .ok (.invokevirtual 50, 3) := by decide +kernel
theorem dX5_cutOne_20 : decode cX5_cutOne 20 = .ok (.ifCond .eq 10, 3) := by decide +kernel
theorem dX5_cutOne_23 : decode cX5_cutOne 23 = .ok (.aload_n 0, 1) := by decide +kernel
theorem dX5_cutOne_24 : decode cX5_cutOne 24 = .ok (.aload_n 1, 1) := by decide +kernel
theorem dX5_cutOne_25 : decode cX5_cutOne 25 = .ok (.iload_n 2, 1) := by decide +kernel
theorem dX5_cutOne_26 : decode cX5_cutOne 26 = .ok (.invokevirtual 53, 3) := by decide +kernel
theorem dX5_cutOne_29 : decode cX5_cutOne 29 = .ok (.ireturn, 1) := by decide +kernel
theorem dX5_cutOne_30 : decode cX5_cutOne 30 = .ok (.aload_n 0, 1) := by decide +kernel
theorem dX5_cutOne_31 : decode cX5_cutOne 31 = .ok (.iload_n 2, 1) := by decide +kernel
theorem dX5_cutOne_32 : decode cX5_cutOne 32 = .ok (.aload_n 1, 1) := by decide +kernel
theorem dX5_cutOne_33 : decode cX5_cutOne 33 = .ok (.getfield 39, 3) := by decide +kernel
theorem dX5_cutOne_36 : decode cX5_cutOne 36 = .ok (.iload_n 2, 1) := by decide +kernel
theorem dX5_cutOne_37 : decode cX5_cutOne 37 = .ok (.baload, 1) := by decide +kernel
theorem dX5_cutOne_38 : decode cX5_cutOne 38 = .ok (.bipush 59, 2) := by decide +kernel
theorem dX5_cutOne_40 : decode cX5_cutOne 40 = .ok (.if_icmp .ne 7, 3) := by decide +kernel
theorem dX5_cutOne_43 : decode cX5_cutOne 43 = .ok (.iconst 3, 1) := by decide +kernel
theorem dX5_cutOne_44 : decode cX5_cutOne 44 = .ok (.goto 4, 3) := by decide +kernel
theorem dX5_cutOne_47 : decode cX5_cutOne 47 = .ok (.iconst 4, 1) := by decide +kernel
theorem dX5_cutOne_48 : decode cX5_cutOne 48 = .ok (.iconst 0, 1) := by decide +kernel
theorem dX5_cutOne_49 : decode cX5_cutOne 49 = .ok (.invokevirtual 35, 3) := by decide +kernel
theorem dX5_cutOne_52 : decode cX5_cutOne 52 = .ok (.iload_n 2, 1) := by decide +kernel
theorem dX5_cutOne_53 : decode cX5_cutOne 53 = .ok (.iconst 1, 1) := by decide +kernel
theorem dX5_cutOne_54 : decode cX5_cutOne 54 = .ok (.iadd, 1) := by decide +kernel
theorem dX5_cutOne_55 : decode cX5_cutOne 55 = .ok (.ireturn, 1) := by decide +kernel
set_option maxRecDepth 20000 in
theorem ggX5_cutWord_X4_isLetter : GoodIn wsX5_cutWord wsX4_isLetter := goodIn_r _ [6, 7, 8, 75, 76] (by decide +kernel) (by decide +kernel)
set_option maxRecDepth 20000 in
theorem gX5_cutWord_X4_isLetter : GoodIn wsX5_cutWord (wsV RX5 43 RX4 yX4_isLetter wsX4_isLetter) := goodIn_app (goodIn_of _ (by decide +kernel)) ggX5_cutWord_X4_isLetter
set_option maxRecDepth 20000 in
theorem ggX5_cutWord_X5_whichWord : GoodIn wsX5_cutWord wsX5_whichWord := goodIn_r _ [13, 14, 15, 16, 5, 17, 8, 18, 19, 20, 21, 22, 23, 24, 25, 26, 27, 28, 29, 30, 31, 32, 33, 34, 35, 36, 37, 38, 39, 40, 41, 42, 43, 44, 45, 46, 47, 48, 49, 50, 51, 52, 53, 54, 55, 56, 57, 58, 59, 60, 61, 62, 63, 64, 65, 66, 75, 76] (by decide +kernel) (by decide +kernel)
set_option maxRecDepth 20000 in
theorem gX5_cutWord_X5_whichWord : GoodIn wsX5_cutWord (wsV RX5 56 RX5 yX5_whichWord wsX5_whichWord) := goodIn_app (goodIn_of _ (by decide +kernel)) ggX5_cutWord_X5_whichWord
set_option maxRecDepth 20000 in
theorem ggX5_cutWord_X5_add : GoodIn wsX5_cutWord wsX5_add := goodIn_r _ [70, 71, 72, 73, 74, 77, 78, 79, 80] (by decide +kernel) (by decide +kernel)
set_option maxRecDepth 20000 in
theorem gX5_cutWord_X5_add : GoodIn wsX5_cutWord (wsV RX5 35 RX5 yX5_add wsX5_add) := goodIn_app (goodIn_of _ (by decide +kernel)) ggX5_cutWord_X5_add
theorem dX5_cutWord_0 : decode cX5_cutWord 0 = .ok (.iload_n 2, 1) := by decide +kernel
theorem dX5_cutWord_1 : decode cX5_cutWord 1 = .ok (.istore_n 3, 1) := by decide +kernel
theorem dX5_cutWord_2 : decode cX5_cutWord 2 = .ok (.iload_n 3, 1) := by decide +kernel
theorem dX5_cutWord_3 : decode cX5_cutWord 3 = .ok (.aload_n 1, 1) := by decide +kernel
theorem dX5_cutWord_4 : decode cX5_cutWord 4 = .ok (.getfield 29, 3) := by decide +kernel
theorem dX5_cutWord_7 : decode cX5_cutWord 7 = .ok (.if_icmp .ge 17, 3) := by decide +kernel
theorem dX5_cutWord_10 : decode cX5_cutWord 10 = .ok (.aload_n 1, 1) := by decide +kernel
theorem dX5_cutWord_11 : decode cX5_cutWord 11 = .ok (.iload_n 3, 1) := by decide +kernel
theorem dX5_cutWord_12 : decode cX5_cutWord 12 = .ok (.invokevirtual 43, 3) := by decide +kernel
theorem dX5_cutWord_15 : decode cX5_cutWord 15 = .ok (.ifCond .eq 9, 3) := by decide +kernel
theorem dX5_cutWord_18 : decode cX5_cutWord 18 = .ok (.iinc 3 1, 3) := by decide +kernel
theorem dX5_cutWord_21 : decode cX5_cutWord 21 = .ok (.goto (-19), 3) := by decide +kernel
theorem dX5_cutWord_24 : decode cX5_cutWord 24 = .ok (.aload_n 0, 1) := by decide +kernel
theorem dX5_cutWord_25 : decode cX5_cutWord 25 = .ok (.aload_n 1, 1) := by decide +kernel
theorem dX5_cutWord_26 : decode cX5_cutWord 26 = .ok (.iload_n 2, 1) := by decide +kernel
theorem dX5_cutWord_27 : decode cX5_cutWord 27 = .ok (.iload_n 3, 1) := by decide +kernel
theorem dX5_cutWord_28 : decode cX5_cutWord 28 = .ok (.invokevirtual 56, 3) := by decide +kernel
theorem dX5_cutWord_31 : decode cX5_cutWord 31 = .ok (.istore 4, 2) := by decide +kernel
theorem dX5_cutWord_33 : decode cX5_cutWord 33 = .ok (.aload_n 0, 1) := by decide +kernel
theorem dX5_cutWord_34 : decode cX5_cutWord 34 = .ok (.iload_n 2, 1) := by decide +kernel
theorem dX5_cutWord_35 : decode cX5_cutWord 35 = .ok (.iload 4, 2) := by decide +kernel
theorem dX5_cutWord_37 : decode cX5_cutWord 37 = .ok (.ifCond .ne 7, 3) := by decide +kernel
theorem dX5_cutWord_40 : decode cX5_cutWord 40 = .ok (.iconst 4, 1) := by decide +kernel
theorem dX5_cutWord_41 : decode cX5_cutWord 41 = .ok (.goto 4, 3) := by decide +kernel
theorem dX5_cutWord_44 : decode cX5_cutWord 44 = .ok (.iconst 1, 1) := by decide +kernel
theorem dX5_cutWord_45 : decode cX5_cutWord 45 = .ok (.iload 4, 2) := by decide +kernel
theorem dX5_cutWord_47 : decode cX5_cutWord 47 = .ok (.invokevirtual 35, 3) := by decide +kernel
theorem dX5_cutWord_50 : decode cX5_cutWord 50 = .ok (.iload_n 3, 1) := by decide +kernel
theorem dX5_cutWord_51 : decode cX5_cutWord 51 = .ok (.ireturn, 1) := by decide +kernel
set_option maxRecDepth 20000 in
theorem ggX5_whichWord_X4_isWord : GoodIn wsX5_whichWord wsX4_isWord := goodIn_r _ [5, 6, 7, 8, 9, 10, 11, 12, 13, 14, 15, 16, 17, 18, 19, 20, 21, 22, 23, 24, 25, 26, 27, 28, 29, 30, 31, 32, 33, 34, 35, 36, 37, 38, 39, 40, 41, 42, 43, 44, 45, 46, 47, 48, 49, 50, 51, 52, 53, 54, 55, 56, 57] (by decide +kernel) (by decide +kernel)
set_option maxRecDepth 20000 in
theorem gX5_whichWord_X4_isWord : GoodIn wsX5_whichWord (wsV RX5 62 RX4 yX4_isWord wsX4_isWord) := goodIn_app (goodIn_of _ (by decide +kernel)) ggX5_whichWord_X4_isWord
theorem dX5_whichWord_0 : decode cX5_whichWord 0 = .ok (.aload_n 1, 1) := by decide +kernel
theorem dX5_whichWord_1 : decode cX5_whichWord 1 = .ok (.ldc 60, 2) := by decide +kernel
theorem dX5_whichWord_3 : decode cX5_whichWord 3 = .ok (.iload_n 2, 1) := by decide +kernel
theorem dX5_whichWord_4 : decode cX5_whichWord 4 = .ok (.iload_n 3, 1) := by decide +kernel
theorem dX5_whichWord_5 : decode cX5_whichWord 5 = .ok (.invokevirtual 62, 3) := by decide +kernel
theorem dX5_whichWord_8 : decode cX5_whichWord 8 = .ok (.ifCond .eq 5, 3) := by decide +kernel
theorem dX5_whichWord_11 : decode cX5_whichWord 11 = .ok (.iconst 1, 1) := by decide +kernel
theorem dX5_whichWord_12 : decode cX5_whichWord 12 = .ok (.ireturn, 1) := by decide +kernel
theorem dX5_whichWord_13 : decode cX5_whichWord 13 = .ok (.aload_n 1, 1) := by decide +kernel
theorem dX5_whichWord_14 : decode cX5_whichWord 14 = .ok (.ldc 66, 2) := by decide +kernel
theorem dX5_whichWord_16 : decode cX5_whichWord 16 = .ok (.iload_n 2, 1) := by decide +kernel
theorem dX5_whichWord_17 : decode cX5_whichWord 17 = .ok (.iload_n 3, 1) := by decide +kernel
theorem dX5_whichWord_18 : decode cX5_whichWord 18 = .ok (.invokevirtual 62, 3) := by decide +kernel
theorem dX5_whichWord_21 : decode cX5_whichWord 21 = .ok (.ifCond .eq 5, 3) := by decide +kernel
theorem dX5_whichWord_24 : decode cX5_whichWord 24 = .ok (.iconst 2, 1) := by decide +kernel
theorem dX5_whichWord_25 : decode cX5_whichWord 25 = .ok (.ireturn, 1) := by decide +kernel
theorem dX5_whichWord_26 : decode cX5_whichWord 26 = .ok (.aload_n 1, 1) := by decide +kernel
theorem dX5_whichWord_27 : decode cX5_whichWord 27 = .ok (.ldc 68, 2) := by decide +kernel
theorem dX5_whichWord_29 : decode cX5_whichWord 29 = .ok (.iload_n 2, 1) := by decide +kernel
theorem dX5_whichWord_30 : decode cX5_whichWord 30 = .ok (.iload_n 3, 1) := by decide +kernel
theorem dX5_whichWord_31 : decode cX5_whichWord 31 = .ok (.invokevirtual 62, 3) := by decide +kernel
theorem dX5_whichWord_34 : decode cX5_whichWord 34 = .ok (.ifCond .eq 5, 3) := by decide +kernel
theorem dX5_whichWord_37 : decode cX5_whichWord 37 = .ok (.iconst 3, 1) := by decide +kernel
theorem dX5_whichWord_38 : decode cX5_whichWord 38 = .ok (.ireturn, 1) := by decide +kernel
theorem dX5_whichWord_39 : decode cX5_whichWord 39 = .ok (.aload_n 1, 1) := by decide +kernel
theorem dX5_whichWord_40 : decode cX5_whichWord 40 = .ok (.ldc 70, 2) := by decide +kernel
theorem dX5_whichWord_42 : decode cX5_whichWord 42 = .ok (.iload_n 2, 1) := by decide +kernel
theorem dX5_whichWord_43 : decode cX5_whichWord 43 = .ok (.iload_n 3, 1) := by decide +kernel
theorem dX5_whichWord_44 : decode cX5_whichWord 44 = .ok (.invokevirtual 62, 3) := by decide +kernel
theorem dX5_whichWord_47 : decode cX5_whichWord 47 = .ok (.ifCond .eq 7, 3) := by decide +kernel
theorem dX5_whichWord_50 : decode cX5_whichWord 50 = .ok (.iconst 4, 1) := by decide +kernel
theorem dX5_whichWord_51 : decode cX5_whichWord 51 = .ok (.goto 4, 3) := by decide +kernel
theorem dX5_whichWord_54 : decode cX5_whichWord 54 = .ok (.iconst 0, 1) := by decide +kernel
theorem dX5_whichWord_55 : decode cX5_whichWord 55 = .ok (.ireturn, 1) := by decide +kernel
set_option maxRecDepth 20000 in
theorem ggX5_cutNumber_X4_isDigit : GoodIn wsX5_cutNumber wsX4_isDigit := goodIn_r _ [7, 8, 9, 19, 20] (by decide +kernel) (by decide +kernel)
set_option maxRecDepth 20000 in
theorem gX5_cutNumber_X4_isDigit : GoodIn wsX5_cutNumber (wsV RX5 50 RX4 yX4_isDigit wsX4_isDigit) := goodIn_app (goodIn_of _ (by decide +kernel)) ggX5_cutNumber_X4_isDigit
set_option maxRecDepth 20000 in
theorem ggX5_cutNumber_X5_add : GoodIn wsX5_cutNumber wsX5_add := goodIn_r _ [14, 15, 16, 17, 18, 21, 22, 23, 24] (by decide +kernel) (by decide +kernel)
set_option maxRecDepth 20000 in
theorem gX5_cutNumber_X5_add : GoodIn wsX5_cutNumber (wsV RX5 35 RX5 yX5_add wsX5_add) := goodIn_app (goodIn_of _ (by decide +kernel)) ggX5_cutNumber_X5_add
theorem dX5_cutNumber_0 : decode cX5_cutNumber 0 = .ok (.iload_n 2, 1) := by decide +kernel
theorem dX5_cutNumber_1 : decode cX5_cutNumber 1 = .ok (.istore_n 3, 1) := by decide +kernel
theorem dX5_cutNumber_2 : decode cX5_cutNumber 2 = .ok (.iconst 0, 1) := by decide +kernel
theorem dX5_cutNumber_3 : decode cX5_cutNumber 3 = .ok (.istore 4, 2) := by decide +kernel
theorem dX5_cutNumber_5 : decode cX5_cutNumber 5 = .ok (.iconst 0, 1) := by decide +kernel
theorem dX5_cutNumber_6 : decode cX5_cutNumber 6 = .ok (.istore 5, 2) := by decide +kernel
theorem dX5_cutNumber_8 : decode cX5_cutNumber 8 = .ok (.iload_n 3, 1) := by decide +kernel
theorem dX5_cutNumber_9 : decode cX5_cutNumber 9 = .ok (.aload_n 1, 1) := by decide +kernel
theorem dX5_cutNumber_10 : decode cX5_cutNumber 10 = .ok (.getfield 29, 3) := by decide +kernel
theorem dX5_cutNumber_13 : decode cX5_cutNumber 13 = .ok (.if_icmp .ge 43, 3) := by decide +kernel
theorem dX5_cutNumber_16 : decode cX5_cutNumber 16 = .ok (.aload_n 1, 1) := by decide +kernel
theorem dX5_cutNumber_17 : decode cX5_cutNumber 17 = .ok (.iload_n 3, 1) := by decide +kernel
theorem dX5_cutNumber_18 : decode cX5_cutNumber 18 = .ok (.invokevirtual 50, 3) := by decide +kernel
theorem dX5_cutNumber_21 : decode cX5_cutNumber 21 = .ok (.ifCond .eq 35, 3) := by decide +kernel
theorem dX5_cutNumber_24 : decode cX5_cutNumber 24 = .ok (.iinc 4 1, 3) := by decide +kernel
theorem dX5_cutNumber_27 : decode cX5_cutNumber 27 = .ok (.iload 4, 2) := by decide +kernel
theorem dX5_cutNumber_29 : decode cX5_cutNumber 29 = .ok (.iconst 2, 1) := by decide +kernel
theorem dX5_cutNumber_30 : decode cX5_cutNumber 30 = .ok (.if_icmp .gt 20, 3) := by decide +kernel
theorem dX5_cutNumber_33 : decode cX5_cutNumber 33 = .ok (.bipush 10, 2) := by decide +kernel
theorem dX5_cutNumber_35 : decode cX5_cutNumber 35 = .ok (.iload 5, 2) := by decide +kernel
theorem dX5_cutNumber_37 : decode cX5_cutNumber 37 = .ok (.imul, 1) := by decide +kernel
theorem dX5_cutNumber_38 : decode cX5_cutNumber 38 = .ok (.aload_n 1, 1) := by decide +kernel
theorem dX5_cutNumber_39 : decode cX5_cutNumber 39 = .ok (.getfield 39, 3) := by decide +kernel
theorem dX5_cutNumber_42 : decode cX5_cutNumber 42 = .ok (.iload_n 3, 1) := by decide +kernel
theorem dX5_cutNumber_43 : decode cX5_cutNumber 43 = .ok (.baload, 1) := by decide +kernel
theorem dX5_cutNumber_44 : decode cX5_cutNumber 44 = .ok (.iadd, 1) := by decide +kernel
theorem dX5_cutNumber_45 : decode cX5_cutNumber 45 = .ok (.bipush 48, 2) := by decide +kernel
theorem dX5_cutNumber_47 : decode cX5_cutNumber 47 = .ok (.isub, 1) := by decide +kernel
theorem dX5_cutNumber_48 : decode cX5_cutNumber 48 = .ok (.istore 5, 2) := by decide +kernel
theorem dX5_cutNumber_50 : decode cX5_cutNumber 50 = .ok (.iinc 3 1, 3) := by decide +kernel
theorem dX5_cutNumber_53 : decode cX5_cutNumber 53 = .ok (.goto (-45), 3) := by decide +kernel
theorem dX5_cutNumber_56 : decode cX5_cutNumber 56 = .ok (.iload 4, 2) := by decide +kernel
theorem dX5_cutNumber_58 : decode cX5_cutNumber 58 = .ok (.iconst 1, 1) := by decide +kernel
theorem dX5_cutNumber_59 : decode cX5_cutNumber 59 = .ok (.if_icmp .le 18, 3) := by decide +kernel
theorem dX5_cutNumber_62 : decode cX5_cutNumber 62 = .ok (.aload_n 1, 1) := by decide +kernel
theorem dX5_cutNumber_63 : decode cX5_cutNumber 63 = .ok (.getfield 39, 3) := by decide +kernel
theorem dX5_cutNumber_66 : decode cX5_cutNumber 66 = .ok (.iload_n 2, 1) := by decide +kernel
theorem dX5_cutNumber_67 : decode cX5_cutNumber 67 = .ok (.baload, 1) := by decide +kernel
theorem dX5_cutNumber_68 : decode cX5_cutNumber 68 = .ok (.bipush 48, 2) := by decide +kernel
theorem dX5_cutNumber_70 : decode cX5_cutNumber 70 = .ok (.if_icmp .ne 7, 3) := by decide +kernel
theorem dX5_cutNumber_73 : decode cX5_cutNumber 73 = .ok (.iconst 1, 1) := by decide +kernel
theorem dX5_cutNumber_74 : decode cX5_cutNumber 74 = .ok (.goto 4, 3) := by decide +kernel
theorem dX5_cutNumber_77 : decode cX5_cutNumber 77 = .ok (.iconst 0, 1) := by decide +kernel
theorem dX5_cutNumber_78 : decode cX5_cutNumber 78 = .ok (.istore 6, 2) := by decide +kernel
theorem dX5_cutNumber_80 : decode cX5_cutNumber 80 = .ok (.aload_n 0, 1) := by decide +kernel
theorem dX5_cutNumber_81 : decode cX5_cutNumber 81 = .ok (.iload_n 2, 1) := by decide +kernel
theorem dX5_cutNumber_82 : decode cX5_cutNumber 82 = .ok (.iload 4, 2) := by decide +kernel
theorem dX5_cutNumber_84 : decode cX5_cutNumber 84 = .ok (.iconst 2, 1) := by decide +kernel
theorem dX5_cutNumber_85 : decode cX5_cutNumber 85 = .ok (.if_icmp .gt 8, 3) := by decide +kernel
theorem dX5_cutNumber_88 : decode cX5_cutNumber 88 = .ok (.iload 6, 2) := by decide +kernel
theorem dX5_cutNumber_90 : decode cX5_cutNumber 90 = .ok (.ifCond .eq 7, 3) := by decide +kernel
theorem dX5_cutNumber_93 : decode cX5_cutNumber 93 = .ok (.iconst 4, 1) := by decide +kernel
theorem dX5_cutNumber_94 : decode cX5_cutNumber 94 = .ok (.goto 4, 3) := by decide +kernel
theorem dX5_cutNumber_97 : decode cX5_cutNumber 97 = .ok (.iconst 2, 1) := by decide +kernel
theorem dX5_cutNumber_98 : decode cX5_cutNumber 98 = .ok (.iload 5, 2) := by decide +kernel
theorem dX5_cutNumber_100 : decode cX5_cutNumber 100 = .ok (.invokevirtual 35, 3) := by decide +kernel
theorem dX5_cutNumber_103 : decode cX5_cutNumber 103 = .ok (.iload_n 3, 1) := by decide +kernel
theorem dX5_cutNumber_104 : decode cX5_cutNumber 104 = .ok (.ireturn, 1) := by decide +kernel
theorem dX5_add_0 : decode cX5_add 0 = .ok (.aload_n 0, 1) := by decide +kernel
theorem dX5_add_1 : decode cX5_add 1 = .ok (.getfield 21, 3) := by decide +kernel
theorem dX5_add_4 : decode cX5_add 4 = .ok (.sipush 251, 3) := by decide +kernel
theorem dX5_add_7 : decode cX5_add 7 = .ok (.if_icmp .ge 43, 3) := by decide +kernel
theorem dX5_add_10 : decode cX5_add 10 = .ok (.aload_n 0, 1) := by decide +kernel
theorem dX5_add_11 : decode cX5_add 11 = .ok (.getfield 11, 3) := by decide +kernel
theorem dX5_add_14 : decode cX5_add 14 = .ok (.aload_n 0, 1) := by decide +kernel
theorem dX5_add_15 : decode cX5_add 15 = .ok (.getfield 21, 3) := by decide +kernel
theorem dX5_add_18 : decode cX5_add 18 = .ok (.iload_n 1, 1) := by decide +kernel
theorem dX5_add_19 : decode cX5_add 19 = .ok (.iastore, 1) := by decide +kernel
theorem dX5_add_20 : decode cX5_add 20 = .ok (.aload_n 0, 1) := by decide +kernel
theorem dX5_add_21 : decode cX5_add 21 = .ok (.getfield 15, 3) := by decide +kernel
theorem dX5_add_24 : decode cX5_add 24 = .ok (.aload_n 0, 1) := by decide +kernel
theorem dX5_add_25 : decode cX5_add 25 = .ok (.getfield 21, 3) := by decide +kernel
theorem dX5_add_28 : decode cX5_add 28 = .ok (.iload_n 2, 1) := by decide +kernel
theorem dX5_add_29 : decode cX5_add 29 = .ok (.iastore, 1) := by decide +kernel
theorem dX5_add_30 : decode cX5_add 30 = .ok (.aload_n 0, 1) := by decide +kernel
theorem dX5_add_31 : decode cX5_add 31 = .ok (.getfield 18, 3) := by decide +kernel
theorem dX5_add_34 : decode cX5_add 34 = .ok (.aload_n 0, 1) := by decide +kernel
theorem dX5_add_35 : decode cX5_add 35 = .ok (.getfield 21, 3) := by decide +kernel
theorem dX5_add_38 : decode cX5_add 38 = .ok (.iload_n 3, 1) := by decide +kernel
theorem dX5_add_39 : decode cX5_add 39 = .ok (.iastore, 1) := by decide +kernel
theorem dX5_add_40 : decode cX5_add 40 = .ok (.aload_n 0, 1) := by decide +kernel
theorem dX5_add_41 : decode cX5_add 41 = .ok (.dup, 1) := by decide +kernel
theorem dX5_add_42 : decode cX5_add 42 = .ok (.getfield 21, 3) := by decide +kernel
theorem dX5_add_45 : decode cX5_add 45 = .ok (.iconst 1, 1) := by decide +kernel
theorem dX5_add_46 : decode cX5_add 46 = .ok (.iadd, 1) := by decide +kernel
theorem dX5_add_47 : decode cX5_add 47 = .ok (.putfield 21, 3) := by decide +kernel
theorem dX5_add_50 : decode cX5_add 50 = .ok (.return_, 1) := by decide +kernel
set_option maxRecDepth 20000 in
theorem ggX6_init_X6_makeEmpty : GoodIn wsX6_init wsX6_makeEmpty := goodIn_r _ [16, 17, 5, 6, 7, 8, 10, 11, 9, 18, 19, 20, 15, 21, 22, 23, 24, 25, 26, 27, 28, 29, 30, 31] (by decide +kernel) (by decide +kernel)
set_option maxRecDepth 20000 in
theorem gX6_init_X6_makeEmpty : GoodIn wsX6_init (wsV RX6 33 RX6 yX6_makeEmpty wsX6_makeEmpty) := goodIn_app (goodIn_of _ (by decide +kernel)) ggX6_init_X6_makeEmpty
theorem dX6_init_0 : decode cX6_init 0 = .ok (.aload_n 0, 1) := by decide +kernel
theorem dX6_init_1 : decode cX6_init 1 = .ok (.invokespecial 3, 3) := by decide +kernel
theorem dX6_init_4 : decode cX6_init 4 = .ok (.aload_n 0, 1) := by decide +kernel
theorem dX6_init_5 : decode cX6_init 5 = .ok (.bipush 6, 2) := by decide +kernel
theorem dX6_init_7 : decode cX6_init 7 = .ok (.newarray .int, 2) := by decide +kernel
theorem dX6_init_9 : decode cX6_init 9 = .ok (.putfield 9, 3) := by decide +kernel
theorem dX6_init_12 : decode cX6_init 12 = .ok (.aload_n 0, 1) := by decide +kernel
theorem dX6_init_13 : decode cX6_init 13 = .ok (.bipush 6, 2) := by decide +kernel
theorem dX6_init_15 : decode cX6_init 15 = .ok (.newarray .int, 2) := by decide +kernel
theorem dX6_init_17 : decode cX6_init 17 = .ok (.putfield 15, 3) := by decide +kernel
theorem dX6_init_20 : decode cX6_init 20 = .ok (.aload_n 0, 1) := by decide +kernel
theorem dX6_init_21 : decode cX6_init 21 = .ok (.bipush 6, 2) := by decide +kernel
theorem dX6_init_23 : decode cX6_init 23 = .ok (.newarray .int, 2) := by decide +kernel
theorem dX6_init_25 : decode cX6_init 25 = .ok (.putfield 18, 3) := by decide +kernel
theorem dX6_init_28 : decode cX6_init 28 = .ok (.aload_n 0, 1) := by decide +kernel
theorem dX6_init_29 : decode cX6_init 29 = .ok (.bipush 6, 2) := by decide +kernel
theorem dX6_init_31 : decode cX6_init 31 = .ok (.newarray .int, 2) := by decide +kernel
theorem dX6_init_33 : decode cX6_init 33 = .ok (.putfield 21, 3) := by decide +kernel
theorem dX6_init_36 : decode cX6_init 36 = .ok (.aload_n 0, 1) := by decide +kernel
theorem dX6_init_37 : decode cX6_init 37 = .ok (.bipush 36, 2) := by decide +kernel
theorem dX6_init_39 : decode cX6_init 39 = .ok (.newarray .int, 2) := by decide +kernel
theorem dX6_init_41 : decode cX6_init 41 = .ok (.putfield 24, 3) := by decide +kernel
theorem dX6_init_44 : decode cX6_init 44 = .ok (.aload_n 0, 1) := by decide +kernel
theorem dX6_init_45 : decode cX6_init 45 = .ok (.bipush 6, 2) := by decide +kernel
theorem dX6_init_47 : decode cX6_init 47 = .ok (.newarray .int, 2) := by decide +kernel
theorem dX6_init_49 : decode cX6_init 49 = .ok (.putfield 27, 3) := by decide +kernel
theorem dX6_init_52 : decode cX6_init 52 = .ok (.aload_n 0, 1) := by decide +kernel
theorem dX6_init_53 : decode cX6_init 53 = .ok (.bipush 6, 2) := by decide +kernel
theorem dX6_init_55 : decode cX6_init 55 = .ok (.newarray .int, 2) := by decide +kernel
theorem dX6_init_57 : decode cX6_init 57 = .ok (.putfield 30, 3) := by decide +kernel
theorem dX6_init_60 : decode cX6_init 60 = .ok (.aload_n 0, 1) := by decide +kernel
theorem dX6_init_61 : decode cX6_init 61 = .ok (.invokevirtual 33, 3) := by decide +kernel
theorem dX6_init_64 : decode cX6_init 64 = .ok (.return_, 1) := by decide +kernel
set_option maxRecDepth 20000 in
theorem ggX6_makeEmpty_X6_setLimit : GoodIn wsX6_makeEmpty wsX6_setLimit := goodIn_r _ [13, 14, 15, 16, 17, 18, 19, 20, 21, 22, 23] (by decide +kernel) (by decide +kernel)
set_option maxRecDepth 20000 in
theorem gX6_makeEmpty_X6_setLimit : GoodIn wsX6_makeEmpty (wsV RX6 40 RX6 yX6_setLimit wsX6_setLimit) := goodIn_app (goodIn_of _ (by decide +kernel)) ggX6_makeEmpty_X6_setLimit
theorem dX6_makeEmpty_0 : decode cX6_makeEmpty 0 = .ok (.aload_n 0, 1) := by decide +kernel
theorem dX6_makeEmpty_1 : decode cX6_makeEmpty 1 = .ok (.iconst 0, 1) := by decide +kernel
theorem dX6_makeEmpty_2 : decode cX6_makeEmpty 2 = .ok (.putfield 36, 3) := by decide +kernel
theorem dX6_makeEmpty_5 : decode cX6_makeEmpty 5 = .ok (.aload_n 0, 1) := by decide +kernel
theorem dX6_makeEmpty_6 : decode cX6_makeEmpty 6 = .ok (.bipush 9, 2) := by decide +kernel
theorem dX6_makeEmpty_8 : decode cX6_makeEmpty 8 = .ok (.invokevirtual 40, 3) := by decide +kernel
theorem dX6_makeEmpty_11 : decode cX6_makeEmpty 11 = .ok (.iconst 0, 1) := by decide +kernel
theorem dX6_makeEmpty_12 : decode cX6_makeEmpty 12 = .ok (.istore_n 1, 1) := by decide +kernel
theorem dX6_makeEmpty_13 : decode cX6_makeEmpty 13 = .ok (.iload_n 1, 1) := by decide +kernel
theorem dX6_makeEmpty_14 : decode cX6_makeEmpty 14 = .ok (.bipush 6, 2) := by decide +kernel
theorem dX6_makeEmpty_16 : decode cX6_makeEmpty 16 = .ok (.if_icmp .ge 51, 3) := by decide +kernel
theorem dX6_makeEmpty_19 : decode cX6_makeEmpty 19 = .ok (.aload_n 0, 1) := by decide +kernel
theorem dX6_makeEmpty_20 : decode cX6_makeEmpty 20 = .ok (.getfield 9, 3) := by decide +kernel
theorem dX6_makeEmpty_23 : decode cX6_makeEmpty 23 = .ok (.iload_n 1, 1) := by decide +kernel
theorem dX6_makeEmpty_24 : decode cX6_makeEmpty 24 = .ok (.iconst 0, 1) := by decide +kernel
theorem dX6_makeEmpty_25 : decode cX6_makeEmpty 25 = .ok (.iastore, 1) := by decide +kernel
theorem dX6_makeEmpty_26 : decode cX6_makeEmpty 26 = .ok (.aload_n 0, 1) := by decide +kernel
theorem dX6_makeEmpty_27 : decode cX6_makeEmpty 27 = .ok (.getfield 15, 3) := by decide +kernel
theorem dX6_makeEmpty_30 : decode cX6_makeEmpty 30 = .ok (.iload_n 1, 1) := by decide +kernel
theorem dX6_makeEmpty_31 : decode cX6_makeEmpty 31 = .ok (.iconst 0, 1) := by decide +kernel
theorem dX6_makeEmpty_32 : decode cX6_makeEmpty 32 = .ok (.iastore, 1) := by decide +kernel
theorem dX6_makeEmpty_33 : decode cX6_makeEmpty 33 = .ok (.aload_n 0, 1) := by decide +kernel
theorem dX6_makeEmpty_34 : decode cX6_makeEmpty 34 = .ok (.getfield 18, 3) := by decide +kernel
theorem dX6_makeEmpty_37 : decode cX6_makeEmpty 37 = .ok (.iload_n 1, 1) := by decide +kernel
theorem dX6_makeEmpty_38 : decode cX6_makeEmpty 38 = .ok (.iconst 0, 1) := by decide +kernel
theorem dX6_makeEmpty_39 : decode cX6_makeEmpty 39 = .ok (.iastore, 1) := by decide +kernel
theorem dX6_makeEmpty_40 : decode cX6_makeEmpty 40 = .ok (.aload_n 0, 1) := by decide +kernel
theorem dX6_makeEmpty_41 : decode cX6_makeEmpty 41 = .ok (.getfield 21, 3) := by decide +kernel
theorem dX6_makeEmpty_44 : decode cX6_makeEmpty 44 = .ok (.iload_n 1, 1) := by decide +kernel
theorem dX6_makeEmpty_45 : decode cX6_makeEmpty 45 = .ok (.iconst 0, 1) := by decide +kernel
theorem dX6_makeEmpty_46 : decode cX6_makeEmpty 46 = .ok (.iastore, 1) := by decide +kernel
theorem dX6_makeEmpty_47 : decode cX6_makeEmpty 47 = .ok (.aload_n 0, 1) := by decide +kernel
theorem dX6_makeEmpty_48 : decode cX6_makeEmpty 48 = .ok (.getfield 27, 3) := by decide +kernel
theorem dX6_makeEmpty_51 : decode cX6_makeEmpty 51 = .ok (.iload_n 1, 1) := by decide +kernel
theorem dX6_makeEmpty_52 : decode cX6_makeEmpty 52 = .ok (.iconst 0, 1) := by decide +kernel
theorem dX6_makeEmpty_53 : decode cX6_makeEmpty 53 = .ok (.iastore, 1) := by decide +kernel
theorem dX6_makeEmpty_54 : decode cX6_makeEmpty 54 = .ok (.aload_n 0, 1) := by decide +kernel
theorem dX6_makeEmpty_55 : decode cX6_makeEmpty 55 = .ok (.getfield 30, 3) := by decide +kernel
theorem dX6_makeEmpty_58 : decode cX6_makeEmpty 58 = .ok (.iload_n 1, 1) := by decide +kernel
theorem dX6_makeEmpty_59 : decode cX6_makeEmpty 59 = .ok (.iconst 0, 1) := by decide +kernel
theorem dX6_makeEmpty_60 : decode cX6_makeEmpty 60 = .ok (.iastore, 1) := by decide +kernel
theorem dX6_makeEmpty_61 : decode cX6_makeEmpty 61 = .ok (.iinc 1 1, 3) := by decide +kernel
theorem dX6_makeEmpty_64 : decode cX6_makeEmpty 64 = .ok (.goto (-51), 3) := by decide +kernel
theorem dX6_makeEmpty_67 : decode cX6_makeEmpty 67 = .ok (.iconst 0, 1) := by decide +kernel
theorem dX6_makeEmpty_68 : decode cX6_makeEmpty 68 = .ok (.istore_n 1, 1) := by decide +kernel
theorem dX6_makeEmpty_69 : decode cX6_makeEmpty 69 = .ok (.iload_n 1, 1) := by decide +kernel
theorem dX6_makeEmpty_70 : decode cX6_makeEmpty 70 = .ok (.aload_n 0, 1) := by decide +kernel
theorem dX6_makeEmpty_71 : decode cX6_makeEmpty 71 = .ok (.getfield 24, 3) := by decide +kernel
theorem dX6_makeEmpty_74 : decode cX6_makeEmpty 74 = .ok (.arraylength, 1) := by decide +kernel
theorem dX6_makeEmpty_75 : decode cX6_makeEmpty 75 = .ok (.if_icmp .ge 16, 3) := by decide +kernel
theorem dX6_makeEmpty_78 : decode cX6_makeEmpty 78 = .ok (.aload_n 0, 1) := by decide +kernel
theorem dX6_makeEmpty_79 : decode cX6_makeEmpty 79 = .ok (.getfield 24, 3) := by decide +kernel
theorem dX6_makeEmpty_82 : decode cX6_makeEmpty 82 = .ok (.iload_n 1, 1) := by decide +kernel
theorem dX6_makeEmpty_83 : decode cX6_makeEmpty 83 = .ok (.iconst 0, 1) := by decide +kernel
theorem dX6_makeEmpty_84 : decode cX6_makeEmpty 84 = .ok (.iastore, 1) := by decide +kernel
theorem dX6_makeEmpty_85 : decode cX6_makeEmpty 85 = .ok (.iinc 1 1, 3) := by decide +kernel
theorem dX6_makeEmpty_88 : decode cX6_makeEmpty 88 = .ok (.goto (-19), 3) := by decide +kernel
theorem dX6_makeEmpty_91 : decode cX6_makeEmpty 91 = .ok (.return_, 1) := by decide +kernel
theorem dX6_copy_0 : decode cX6_copy 0 = .ok (.aload_n 0, 1) := by decide +kernel
theorem dX6_copy_1 : decode cX6_copy 1 = .ok (.aload_n 1, 1) := by decide +kernel
theorem dX6_copy_2 : decode cX6_copy 2 = .ok (.getfield 36, 3) := by decide +kernel
theorem dX6_copy_5 : decode cX6_copy 5 = .ok (.putfield 36, 3) := by decide +kernel
theorem dX6_copy_8 : decode cX6_copy 8 = .ok (.aload_n 0, 1) := by decide +kernel
theorem dX6_copy_9 : decode cX6_copy 9 = .ok (.aload_n 1, 1) := by decide +kernel
theorem dX6_copy_10 : decode cX6_copy 10 = .ok (.getfield 44, 3) := by decide +kernel
theorem dX6_copy_13 : decode cX6_copy 13 = .ok (.putfield 44, 3) := by decide +kernel
theorem dX6_copy_16 : decode cX6_copy 16 = .ok (.iconst 0, 1) := by decide +kernel
theorem dX6_copy_17 : decode cX6_copy 17 = .ok (.istore_n 2, 1) := by decide +kernel
theorem dX6_copy_18 : decode cX6_copy 18 = .ok (.iload_n 2, 1) := by decide +kernel
theorem dX6_copy_19 : decode cX6_copy 19 = .ok (.bipush 6, 2) := by decide +kernel
theorem dX6_copy_21 : decode cX6_copy 21 = .ok (.if_icmp .ge 81, 3) := by decide +kernel
theorem dX6_copy_24 : decode cX6_copy 24 = .ok (.aload_n 0, 1) := by decide +kernel
theorem dX6_copy_25 : decode cX6_copy 25 = .ok (.getfield 9, 3) := by decide +kernel
theorem dX6_copy_28 : decode cX6_copy 28 = .ok (.iload_n 2, 1) := by decide +kernel
theorem dX6_copy_29 : decode cX6_copy 29 = .ok (.aload_n 1, 1) := by decide +kernel
theorem dX6_copy_30 : decode cX6_copy 30 = .ok (.getfield 9, 3) := by decide +kernel
theorem dX6_copy_33 : decode cX6_copy 33 = .ok (.iload_n 2, 1) := by decide +kernel
theorem dX6_copy_34 : decode cX6_copy 34 = .ok (.iaload, 1) := by decide +kernel
theorem dX6_copy_35 : decode cX6_copy 35 = .ok (.iastore, 1) := by decide +kernel
theorem dX6_copy_36 : decode cX6_copy 36 = .ok (.aload_n 0, 1) := by decide +kernel
theorem dX6_copy_37 : decode cX6_copy 37 = .ok (.getfield 15, 3) := by decide +kernel
theorem dX6_copy_40 : decode cX6_copy 40 = .ok (.iload_n 2, 1) := by decide +kernel
theorem dX6_copy_41 : decode cX6_copy 41 = .ok (.aload_n 1, 1) := by decide +kernel
theorem dX6_copy_42 : decode cX6_copy 42 = .ok (.getfield 15, 3) := by decide +kernel
theorem dX6_copy_45 : decode cX6_copy 45 = .ok (.iload_n 2, 1) := by decide +kernel
theorem dX6_copy_46 : decode cX6_copy 46 = .ok (.iaload, 1) := by decide +kernel
theorem dX6_copy_47 : decode cX6_copy 47 = .ok (.iastore, 1) := by decide +kernel
theorem dX6_copy_48 : decode cX6_copy 48 = .ok (.aload_n 0, 1) := by decide +kernel
theorem dX6_copy_49 : decode cX6_copy 49 = .ok (.getfield 18, 3) := by decide +kernel
theorem dX6_copy_52 : decode cX6_copy 52 = .ok (.iload_n 2, 1) := by decide +kernel
theorem dX6_copy_53 : decode cX6_copy 53 = .ok (.aload_n 1, 1) := by decide +kernel
theorem dX6_copy_54 : decode cX6_copy 54 = .ok (.getfield 18, 3) := by decide +kernel
theorem dX6_copy_57 : decode cX6_copy 57 = .ok (.iload_n 2, 1) := by decide +kernel
theorem dX6_copy_58 : decode cX6_copy 58 = .ok (.iaload, 1) := by decide +kernel
theorem dX6_copy_59 : decode cX6_copy 59 = .ok (.iastore, 1) := by decide +kernel
theorem dX6_copy_60 : decode cX6_copy 60 = .ok (.aload_n 0, 1) := by decide +kernel
theorem dX6_copy_61 : decode cX6_copy 61 = .ok (.getfield 21, 3) := by decide +kernel
theorem dX6_copy_64 : decode cX6_copy 64 = .ok (.iload_n 2, 1) := by decide +kernel
theorem dX6_copy_65 : decode cX6_copy 65 = .ok (.aload_n 1, 1) := by decide +kernel
theorem dX6_copy_66 : decode cX6_copy 66 = .ok (.getfield 21, 3) := by decide +kernel
theorem dX6_copy_69 : decode cX6_copy 69 = .ok (.iload_n 2, 1) := by decide +kernel
theorem dX6_copy_70 : decode cX6_copy 70 = .ok (.iaload, 1) := by decide +kernel
theorem dX6_copy_71 : decode cX6_copy 71 = .ok (.iastore, 1) := by decide +kernel
theorem dX6_copy_72 : decode cX6_copy 72 = .ok (.aload_n 0, 1) := by decide +kernel
theorem dX6_copy_73 : decode cX6_copy 73 = .ok (.getfield 27, 3) := by decide +kernel
theorem dX6_copy_76 : decode cX6_copy 76 = .ok (.iload_n 2, 1) := by decide +kernel
theorem dX6_copy_77 : decode cX6_copy 77 = .ok (.aload_n 1, 1) := by decide +kernel
theorem dX6_copy_78 : decode cX6_copy 78 = .ok (.getfield 27, 3) := by decide +kernel
theorem dX6_copy_81 : decode cX6_copy 81 = .ok (.iload_n 2, 1) := by decide +kernel
theorem dX6_copy_82 : decode cX6_copy 82 = .ok (.iaload, 1) := by decide +kernel
theorem dX6_copy_83 : decode cX6_copy 83 = .ok (.iastore, 1) := by decide +kernel
theorem dX6_copy_84 : decode cX6_copy 84 = .ok (.aload_n 0, 1) := by decide +kernel
theorem dX6_copy_85 : decode cX6_copy 85 = .ok (.getfield 30, 3) := by decide +kernel
theorem dX6_copy_88 : decode cX6_copy 88 = .ok (.iload_n 2, 1) := by decide +kernel
theorem dX6_copy_89 : decode cX6_copy 89 = .ok (.aload_n 1, 1) := by decide +kernel
theorem dX6_copy_90 : decode cX6_copy 90 = .ok (.getfield 30, 3) := by decide +kernel
theorem dX6_copy_93 : decode cX6_copy 93 = .ok (.iload_n 2, 1) := by decide +kernel
theorem dX6_copy_94 : decode cX6_copy 94 = .ok (.iaload, 1) := by decide +kernel
theorem dX6_copy_95 : decode cX6_copy 95 = .ok (.iastore, 1) := by decide +kernel
theorem dX6_copy_96 : decode cX6_copy 96 = .ok (.iinc 2 1, 3) := by decide +kernel
theorem dX6_copy_99 : decode cX6_copy 99 = .ok (.goto (-81), 3) := by decide +kernel
theorem dX6_copy_102 : decode cX6_copy 102 = .ok (.iconst 0, 1) := by decide +kernel
theorem dX6_copy_103 : decode cX6_copy 103 = .ok (.istore_n 2, 1) := by decide +kernel
theorem dX6_copy_104 : decode cX6_copy 104 = .ok (.iload_n 2, 1) := by decide +kernel
theorem dX6_copy_105 : decode cX6_copy 105 = .ok (.aload_n 0, 1) := by decide +kernel
theorem dX6_copy_106 : decode cX6_copy 106 = .ok (.getfield 24, 3) := by decide +kernel
theorem dX6_copy_109 : decode cX6_copy 109 = .ok (.arraylength, 1) := by decide +kernel
theorem dX6_copy_110 : decode cX6_copy 110 = .ok (.if_icmp .ge 21, 3) := by decide +kernel
theorem dX6_copy_113 : decode cX6_copy 113 = .ok (.aload_n 0, 1) := by decide +kernel
theorem dX6_copy_114 : decode cX6_copy 114 = .ok (.getfield 24, 3) := by decide +kernel
theorem dX6_copy_117 : decode cX6_copy 117 = .ok (.iload_n 2, 1) := by decide +kernel
theorem dX6_copy_118 : decode cX6_copy 118 = .ok (.aload_n 1, 1) := by decide +kernel
theorem dX6_copy_119 : decode cX6_copy 119 = .ok (.getfield 24, 3) := by decide +kernel
theorem dX6_copy_122 : decode cX6_copy 122 = .ok (.iload_n 2, 1) := by decide +kernel
theorem dX6_copy_123 : decode cX6_copy 123 = .ok (.iaload, 1) := by decide +kernel
theorem dX6_copy_124 : decode cX6_copy 124 = .ok (.iastore, 1) := by decide +kernel
theorem dX6_copy_125 : decode cX6_copy 125 = .ok (.iinc 2 1, 3) := by decide +kernel
theorem dX6_copy_128 : decode cX6_copy 128 = .ok (.goto (-24), 3) := by decide +kernel
theorem dX6_copy_131 : decode cX6_copy 131 = .ok (.return_, 1) := by decide +kernel
theorem dX6_hasRoom_0 : decode cX6_hasRoom 0 = .ok (.aload_n 0, 1) := by decide +kernel
theorem dX6_hasRoom_1 : decode cX6_hasRoom 1 = .ok (.getfield 36, 3) := by decide +kernel
theorem dX6_hasRoom_4 : decode cX6_hasRoom 4 = .ok (.bipush 6, 2) := by decide +kernel
theorem dX6_hasRoom_6 : decode cX6_hasRoom 6 = .ok (.if_icmp .ge 7, 3) := by decide +kernel
theorem dX6_hasRoom_9 : decode cX6_hasRoom 9 = .ok (.iconst 1, 1) := by decide +kernel
theorem dX6_hasRoom_10 : decode cX6_hasRoom 10 = .ok (.goto 4, 3) := by decide +kernel
theorem dX6_hasRoom_13 : decode cX6_hasRoom 13 = .ok (.iconst 0, 1) := by decide +kernel
theorem dX6_hasRoom_14 : decode cX6_hasRoom 14 = .ok (.ireturn, 1) := by decide +kernel
theorem dX6_addWall_0 : decode cX6_addWall 0 = .ok (.aload_n 0, 1) := by decide +kernel
theorem dX6_addWall_1 : decode cX6_addWall 1 = .ok (.getfield 9, 3) := by decide +kernel
theorem dX6_addWall_4 : decode cX6_addWall 4 = .ok (.aload_n 0, 1) := by decide +kernel
theorem dX6_addWall_5 : decode cX6_addWall 5 = .ok (.getfield 36, 3) := by decide +kernel
theorem dX6_addWall_8 : decode cX6_addWall 8 = .ok (.iload_n 1, 1) := by decide +kernel
theorem dX6_addWall_9 : decode cX6_addWall 9 = .ok (.iastore, 1) := by decide +kernel
theorem dX6_addWall_10 : decode cX6_addWall 10 = .ok (.aload_n 0, 1) := by decide +kernel
theorem dX6_addWall_11 : decode cX6_addWall 11 = .ok (.getfield 15, 3) := by decide +kernel
theorem dX6_addWall_14 : decode cX6_addWall 14 = .ok (.aload_n 0, 1) := by decide +kernel
theorem dX6_addWall_15 : decode cX6_addWall 15 = .ok (.getfield 36, 3) := by decide +kernel
theorem dX6_addWall_18 : decode cX6_addWall 18 = .ok (.iload_n 2, 1) := by decide +kernel
theorem dX6_addWall_19 : decode cX6_addWall 19 = .ok (.iastore, 1) := by decide +kernel
theorem dX6_addWall_20 : decode cX6_addWall 20 = .ok (.aload_n 0, 1) := by decide +kernel
theorem dX6_addWall_21 : decode cX6_addWall 21 = .ok (.dup, 1) := by decide +kernel
theorem dX6_addWall_22 : decode cX6_addWall 22 = .ok (.getfield 36, 3) := by decide +kernel
theorem dX6_addWall_25 : decode cX6_addWall 25 = .ok (.iconst 1, 1) := by decide +kernel
theorem dX6_addWall_26 : decode cX6_addWall 26 = .ok (.iadd, 1) := by decide +kernel
theorem dX6_addWall_27 : decode cX6_addWall 27 = .ok (.putfield 36, 3) := by decide +kernel
theorem dX6_addWall_30 : decode cX6_addWall 30 = .ok (.return_, 1) := by decide +kernel
theorem dX6_partsLeft_0 : decode cX6_partsLeft 0 = .ok (.bipush 10, 2) := by decide +kernel
theorem dX6_partsLeft_2 : decode cX6_partsLeft 2 = .ok (.aload_n 0, 1) := by decide +kernel
theorem dX6_partsLeft_3 : decode cX6_partsLeft 3 = .ok (.getfield 27, 3) := by decide +kernel
theorem dX6_partsLeft_6 : decode cX6_partsLeft 6 = .ok (.iload_n 1, 1) := by decide +kernel
theorem dX6_partsLeft_7 : decode cX6_partsLeft 7 = .ok (.iaload, 1) := by decide +kernel
theorem dX6_partsLeft_8 : decode cX6_partsLeft 8 = .ok (.aload_n 0, 1) := by decide +kernel
theorem dX6_partsLeft_9 : decode cX6_partsLeft 9 = .ok (.getfield 27, 3) := by decide +kernel
theorem dX6_partsLeft_12 : decode cX6_partsLeft 12 = .ok (.iload_n 2, 1) := by decide +kernel
theorem dX6_partsLeft_13 : decode cX6_partsLeft 13 = .ok (.iaload, 1) := by decide +kernel
theorem dX6_partsLeft_14 : decode cX6_partsLeft 14 = .ok (.invokestatic 47, 3) := by decide +kernel
theorem dX6_partsLeft_17 : decode cX6_partsLeft 17 = .ok (.isub, 1) := by decide +kernel
theorem dX6_partsLeft_18 : decode cX6_partsLeft 18 = .ok (.ireturn, 1) := by decide +kernel
theorem dX6_addParts_0 : decode cX6_addParts 0 = .ok (.aload_n 0, 1) := by decide +kernel
theorem dX6_addParts_1 : decode cX6_addParts 1 = .ok (.getfield 24, 3) := by decide +kernel
theorem dX6_addParts_4 : decode cX6_addParts 4 = .ok (.iload_n 1, 1) := by decide +kernel
theorem dX6_addParts_5 : decode cX6_addParts 5 = .ok (.bipush 6, 2) := by decide +kernel
theorem dX6_addParts_7 : decode cX6_addParts 7 = .ok (.imul, 1) := by decide +kernel
theorem dX6_addParts_8 : decode cX6_addParts 8 = .ok (.iload_n 2, 1) := by decide +kernel
theorem dX6_addParts_9 : decode cX6_addParts 9 = .ok (.iadd, 1) := by decide +kernel
theorem dX6_addParts_10 : decode cX6_addParts 10 = .ok (.dup2, 1) := by decide +kernel
theorem dX6_addParts_11 : decode cX6_addParts 11 = .ok (.iaload, 1) := by decide +kernel
theorem dX6_addParts_12 : decode cX6_addParts 12 = .ok (.iload_n 3, 1) := by decide +kernel
theorem dX6_addParts_13 : decode cX6_addParts 13 = .ok (.iadd, 1) := by decide +kernel
theorem dX6_addParts_14 : decode cX6_addParts 14 = .ok (.iastore, 1) := by decide +kernel
theorem dX6_addParts_15 : decode cX6_addParts 15 = .ok (.aload_n 0, 1) := by decide +kernel
theorem dX6_addParts_16 : decode cX6_addParts 16 = .ok (.getfield 24, 3) := by decide +kernel
theorem dX6_addParts_19 : decode cX6_addParts 19 = .ok (.iload_n 2, 1) := by decide +kernel
theorem dX6_addParts_20 : decode cX6_addParts 20 = .ok (.bipush 6, 2) := by decide +kernel
theorem dX6_addParts_22 : decode cX6_addParts 22 = .ok (.imul, 1) := by decide +kernel
theorem dX6_addParts_23 : decode cX6_addParts 23 = .ok (.iload_n 1, 1) := by decide +kernel
theorem dX6_addParts_24 : decode cX6_addParts 24 = .ok (.iadd, 1) := by decide +kernel
theorem dX6_addParts_25 : decode cX6_addParts 25 = .ok (.dup2, 1) := by decide +kernel
theorem dX6_addParts_26 : decode cX6_addParts 26 = .ok (.iaload, 1) := by decide +kernel
theorem dX6_addParts_27 : decode cX6_addParts 27 = .ok (.iload_n 3, 1) := by decide +kernel
theorem dX6_addParts_28 : decode cX6_addParts 28 = .ok (.iadd, 1) := by decide +kernel
theorem dX6_addParts_29 : decode cX6_addParts 29 = .ok (.iastore, 1) := by decide +kernel
theorem dX6_addParts_30 : decode cX6_addParts 30 = .ok (.aload_n 0, 1) := by decide +kernel
theorem dX6_addParts_31 : decode cX6_addParts 31 = .ok (.getfield 27, 3) := by decide +kernel
theorem dX6_addParts_34 : decode cX6_addParts 34 = .ok (.iload_n 1, 1) := by decide +kernel
theorem dX6_addParts_35 : decode cX6_addParts 35 = .ok (.dup2, 1) := by decide +kernel
theorem dX6_addParts_36 : decode cX6_addParts 36 = .ok (.iaload, 1) := by decide +kernel
theorem dX6_addParts_37 : decode cX6_addParts 37 = .ok (.iload_n 3, 1) := by decide +kernel
theorem dX6_addParts_38 : decode cX6_addParts 38 = .ok (.iadd, 1) := by decide +kernel
theorem dX6_addParts_39 : decode cX6_addParts 39 = .ok (.iastore, 1) := by decide +kernel
theorem dX6_addParts_40 : decode cX6_addParts 40 = .ok (.aload_n 0, 1) := by decide +kernel
theorem dX6_addParts_41 : decode cX6_addParts 41 = .ok (.getfield 27, 3) := by decide +kernel
theorem dX6_addParts_44 : decode cX6_addParts 44 = .ok (.iload_n 2, 1) := by decide +kernel
theorem dX6_addParts_45 : decode cX6_addParts 45 = .ok (.dup2, 1) := by decide +kernel
theorem dX6_addParts_46 : decode cX6_addParts 46 = .ok (.iaload, 1) := by decide +kernel
theorem dX6_addParts_47 : decode cX6_addParts 47 = .ok (.iload_n 3, 1) := by decide +kernel
theorem dX6_addParts_48 : decode cX6_addParts 48 = .ok (.iadd, 1) := by decide +kernel
theorem dX6_addParts_49 : decode cX6_addParts 49 = .ok (.iastore, 1) := by decide +kernel
theorem dX6_addParts_50 : decode cX6_addParts 50 = .ok (.return_, 1) := by decide +kernel
theorem dX6_setLimit_0 : decode cX6_setLimit 0 = .ok (.aload_n 0, 1) := by decide +kernel
theorem dX6_setLimit_1 : decode cX6_setLimit 1 = .ok (.bipush 10, 2) := by decide +kernel
theorem dX6_setLimit_3 : decode cX6_setLimit 3 = .ok (.iload_n 1, 1) := by decide +kernel
theorem dX6_setLimit_4 : decode cX6_setLimit 4 = .ok (.imul, 1) := by decide +kernel
theorem dX6_setLimit_5 : decode cX6_setLimit 5 = .ok (.bipush 9, 2) := by decide +kernel
theorem dX6_setLimit_7 : decode cX6_setLimit 7 = .ok (.iadd, 1) := by decide +kernel
theorem dX6_setLimit_8 : decode cX6_setLimit 8 = .ok (.putfield 44, 3) := by decide +kernel
theorem dX6_setLimit_11 : decode cX6_setLimit 11 = .ok (.return_, 1) := by decide +kernel
theorem dX6_dark_0 : decode cX6_dark 0 = .ok (.bipush 10, 2) := by decide +kernel
theorem dX6_dark_2 : decode cX6_dark 2 = .ok (.aload_n 0, 1) := by decide +kernel
theorem dX6_dark_3 : decode cX6_dark 3 = .ok (.getfield 27, 3) := by decide +kernel
theorem dX6_dark_6 : decode cX6_dark 6 = .ok (.iload_n 1, 1) := by decide +kernel
theorem dX6_dark_7 : decode cX6_dark 7 = .ok (.iaload, 1) := by decide +kernel
theorem dX6_dark_8 : decode cX6_dark 8 = .ok (.isub, 1) := by decide +kernel
theorem dX6_dark_9 : decode cX6_dark 9 = .ok (.ireturn, 1) := by decide +kernel
end
section
set_option maxRecDepth 20000 in
theorem ggX7_init_X4_init : GoodIn wsX7_init wsX4_init := goodIn_r _ [31, 32, 2, 3, 33, 34, 91, 92] (by decide +kernel) (by decide +kernel)
set_option maxRecDepth 20000 in
theorem gX7_init_X4_init_n11 : GoodIn wsX7_init (wsX4_init) := ggX7_init_X4_init
set_option maxRecDepth 20000 in
theorem ggX7_init_X2_init : GoodIn wsX7_init wsX2_init := goodIn_r _ [36, 37, 2, 3, 38, 39, 40, 41, 42, 43, 44, 45, 46, 47, 48, 133, 134, 135, 136, 103, 104, 105, 106, 107, 108] (by decide +kernel) (by decide +kernel)
set_option maxRecDepth 20000 in
theorem gX7_init_X2_init_n18 : GoodIn wsX7_init (wsX2_init) := ggX7_init_X2_init
set_option maxRecDepth 20000 in
theorem ggX7_init_X1_init : GoodIn wsX7_init wsX1_init := goodIn_r _ [50, 51, 2, 3, 45, 52, 53, 54, 109, 110, 111, 112, 113, 114, 115, 116] (by decide +kernel) (by decide +kernel)
set_option maxRecDepth 20000 in
theorem gX7_init_X1_init_n25 : GoodIn wsX7_init (wsX1_init) := ggX7_init_X1_init
set_option maxRecDepth 20000 in
theorem ggX7_init_X3_init : GoodIn wsX7_init wsX3_init := goodIn_r _ [56, 57, 2, 3, 45, 58, 59, 60, 117, 118, 119, 120] (by decide +kernel) (by decide +kernel)
set_option maxRecDepth 20000 in
theorem gX7_init_X3_init_n32 : GoodIn wsX7_init (wsX3_init) := ggX7_init_X3_init
set_option maxRecDepth 20000 in
theorem ggX7_init_X0_init : GoodIn wsX7_init wsX0_init := goodIn_r _ [62, 63, 2, 3, 64, 13, 14, 65, 66, 26, 27, 67, 45, 68, 49, 50, 51, 52, 53, 54, 69, 70, 71, 72, 73, 74, 75, 76, 77, 78, 79, 80, 81, 82, 83, 84, 85, 86, 87, 88, 89, 109, 110, 111, 112, 113, 114, 115, 116, 121, 122, 123, 124, 125, 126, 127, 128, 129, 130, 131, 132] (by decide +kernel) (by decide +kernel)
set_option maxRecDepth 20000 in
theorem gX7_init_X0_init_n39 : GoodIn wsX7_init (wsX0_init) := ggX7_init_X0_init
set_option maxRecDepth 20000 in
theorem ggX7_init_X6_init : GoodIn wsX7_init wsX6_init := goodIn_r _ [71, 72, 2, 3, 45, 73, 74, 75, 76, 77, 78, 79, 80, 81, 82, 27, 83, 84, 85, 86, 87, 88, 89, 124, 125, 126, 127, 128, 129, 130, 131, 132] (by decide +kernel) (by decide +kernel)
set_option maxRecDepth 20000 in
theorem gX7_init_X6_init : GoodIn wsX7_init (wsX6_init) := ggX7_init_X6_init
theorem dX7_init_0 : decode cX7_init 0 = .ok (.aload_n 0, 1) := by decide +kernel
theorem dX7_init_1 : decode cX7_init 1 = .ok (.invokespecial 3, 3) := by decide +kernel
theorem dX7_init_4 : decode cX7_init 4 = .ok (.aload_n 0, 1) := by decide +kernel
theorem dX7_init_5 : decode cX7_init 5 = .ok (.new 9, 3) := by decide +kernel
theorem dX7_init_8 : decode cX7_init 8 = .ok (.dup, 1) := by decide +kernel
theorem dX7_init_9 : decode cX7_init 9 = .ok (.invokespecial 11, 3) := by decide +kernel
theorem dX7_init_12 : decode cX7_init 12 = .ok (.putfield 12, 3) := by decide +kernel
theorem dX7_init_15 : decode cX7_init 15 = .ok (.aload_n 0, 1) := by decide +kernel
theorem dX7_init_16 : decode cX7_init 16 = .ok (.new 16, 3) := by decide +kernel
theorem dX7_init_19 : decode cX7_init 19 = .ok (.dup, 1) := by decide +kernel
theorem dX7_init_20 : decode cX7_init 20 = .ok (.invokespecial 18, 3) := by decide +kernel
theorem dX7_init_23 : decode cX7_init 23 = .ok (.putfield 19, 3) := by decide +kernel
theorem dX7_init_26 : decode cX7_init 26 = .ok (.aload_n 0, 1) := by decide +kernel
theorem dX7_init_27 : decode cX7_init 27 = .ok (.new 23, 3) := by decide +kernel
theorem dX7_init_30 : decode cX7_init 30 = .ok (.dup, 1) := by decide +kernel
theorem dX7_init_31 : decode cX7_init 31 = .ok (.invokespecial 25, 3) := by decide +kernel
theorem dX7_init_34 : decode cX7_init 34 = .ok (.putfield 26, 3) := by decide +kernel
theorem dX7_init_37 : decode cX7_init 37 = .ok (.aload_n 0, 1) := by decide +kernel
theorem dX7_init_38 : decode cX7_init 38 = .ok (.new 30, 3) := by decide +kernel
theorem dX7_init_41 : decode cX7_init 41 = .ok (.dup, 1) := by decide +kernel
theorem dX7_init_42 : decode cX7_init 42 = .ok (.invokespecial 32, 3) := by decide +kernel
theorem dX7_init_45 : decode cX7_init 45 = .ok (.putfield 33, 3) := by decide +kernel
theorem dX7_init_48 : decode cX7_init 48 = .ok (.aload_n 0, 1) := by decide +kernel
theorem dX7_init_49 : decode cX7_init 49 = .ok (.new 37, 3) := by decide +kernel
theorem dX7_init_52 : decode cX7_init 52 = .ok (.dup, 1) := by decide +kernel
theorem dX7_init_53 : decode cX7_init 53 = .ok (.invokespecial 39, 3) := by decide +kernel
theorem dX7_init_56 : decode cX7_init 56 = .ok (.putfield 40, 3) := by decide +kernel
theorem dX7_init_59 : decode cX7_init 59 = .ok (.aload_n 0, 1) := by decide +kernel
theorem dX7_init_60 : decode cX7_init 60 = .ok (.iconst 2, 1) := by decide +kernel
theorem dX7_init_61 : decode cX7_init 61 = .ok (.anewarray 23, 3) := by decide +kernel
theorem dX7_init_64 : decode cX7_init 64 = .ok (.putfield 44, 3) := by decide +kernel
theorem dX7_init_67 : decode cX7_init 67 = .ok (.aload_n 0, 1) := by decide +kernel
theorem dX7_init_68 : decode cX7_init 68 = .ok (.new 48, 3) := by decide +kernel
theorem dX7_init_71 : decode cX7_init 71 = .ok (.dup, 1) := by decide +kernel
theorem dX7_init_72 : decode cX7_init 72 = .ok (.invokespecial 50, 3) := by decide +kernel
theorem dX7_init_75 : decode cX7_init 75 = .ok (.putfield 51, 3) := by decide +kernel
theorem dX7_init_78 : decode cX7_init 78 = .ok (.aload_n 0, 1) := by decide +kernel
theorem dX7_init_79 : decode cX7_init 79 = .ok (.new 48, 3) := by decide +kernel
theorem dX7_init_82 : decode cX7_init 82 = .ok (.dup, 1) := by decide +kernel
theorem dX7_init_83 : decode cX7_init 83 = .ok (.invokespecial 50, 3) := by decide +kernel
theorem dX7_init_86 : decode cX7_init 86 = .ok (.putfield 55, 3) := by decide +kernel
theorem dX7_init_89 : decode cX7_init 89 = .ok (.iconst 0, 1) := by decide +kernel
theorem dX7_init_90 : decode cX7_init 90 = .ok (.istore_n 1, 1) := by decide +kernel
theorem dX7_init_91 : decode cX7_init 91 = .ok (.iload_n 1, 1) := by decide +kernel
theorem dX7_init_92 : decode cX7_init 92 = .ok (.iconst 2, 1) := by decide +kernel
theorem dX7_init_93 : decode cX7_init 93 = .ok (.if_icmp .ge 22, 3) := by decide +kernel
theorem dX7_init_96 : decode cX7_init 96 = .ok (.aload_n 0, 1) := by decide +kernel
theorem dX7_init_97 : decode cX7_init 97 = .ok (.getfield 44, 3) := by decide +kernel
theorem dX7_init_100 : decode cX7_init 100 = .ok (.iload_n 1, 1) := by decide +kernel
theorem dX7_init_101 : decode cX7_init 101 = .ok (.new 23, 3) := by decide +kernel
theorem dX7_init_104 : decode cX7_init 104 = .ok (.dup, 1) := by decide +kernel
theorem dX7_init_105 : decode cX7_init 105 = .ok (.invokespecial 25, 3) := by decide +kernel
theorem dX7_init_108 : decode cX7_init 108 = .ok (.aastore, 1) := by decide +kernel
theorem dX7_init_109 : decode cX7_init 109 = .ok (.iinc 1 1, 3) := by decide +kernel
theorem dX7_init_112 : decode cX7_init 112 = .ok (.goto (-21), 3) := by decide +kernel
theorem dX7_init_115 : decode cX7_init 115 = .ok (.return_, 1) := by decide +kernel
set_option maxRecDepth 20000 in
theorem ggX7_type_X4_hasRoomFor : GoodIn wsX7_type wsX4_hasRoomFor := goodIn_r _ [7, 8, 24, 25] (by decide +kernel) (by decide +kernel)
set_option maxRecDepth 20000 in
theorem gX7_type_X4_hasRoomFor : GoodIn wsX7_type (wsV RX7 58 RX4 yX4_hasRoomFor wsX4_hasRoomFor) := goodIn_app (goodIn_of _ (by decide +kernel)) ggX7_type_X4_hasRoomFor
set_option maxRecDepth 20000 in
theorem ggX7_type_X4_append : GoodIn wsX7_type wsX4_append := goodIn_r _ [12, 8, 13, 24, 25] (by decide +kernel) (by decide +kernel)
set_option maxRecDepth 20000 in
theorem gX7_type_X4_append : GoodIn wsX7_type (wsV RX7 62 RX4 yX4_append wsX4_append) := goodIn_app (goodIn_of _ (by decide +kernel)) ggX7_type_X4_append
theorem dX7_type_0 : decode cX7_type 0 = .ok (.iload_n 3, 1) := by decide +kernel
theorem dX7_type_1 : decode cX7_type 1 = .ok (.iconst 1, 1) := by decide +kernel
theorem dX7_type_2 : decode cX7_type 2 = .ok (.if_icmp .lt 9, 3) := by decide +kernel
theorem dX7_type_5 : decode cX7_type 5 = .ok (.iload_n 3, 1) := by decide +kernel
theorem dX7_type_6 : decode cX7_type 6 = .ok (.bipush 8, 2) := by decide +kernel
theorem dX7_type_8 : decode cX7_type 8 = .ok (.if_icmp .le 5, 3) := by decide +kernel
theorem dX7_type_11 : decode cX7_type 11 = .ok (.iconst (-1), 1) := by decide +kernel
theorem dX7_type_12 : decode cX7_type 12 = .ok (.ireturn, 1) := by decide +kernel
theorem dX7_type_13 : decode cX7_type 13 = .ok (.aload_n 0, 1) := by decide +kernel
theorem dX7_type_14 : decode cX7_type 14 = .ok (.getfield 12, 3) := by decide +kernel
theorem dX7_type_17 : decode cX7_type 17 = .ok (.iload_n 3, 1) := by decide +kernel
theorem dX7_type_18 : decode cX7_type 18 = .ok (.invokevirtual 58, 3) := by decide +kernel
theorem dX7_type_21 : decode cX7_type 21 = .ok (.ifCond .ne 6, 3) := by decide +kernel
theorem dX7_type_24 : decode cX7_type 24 = .ok (.bipush (-3), 2) := by decide +kernel
theorem dX7_type_26 : decode cX7_type 26 = .ok (.ireturn, 1) := by decide +kernel
theorem dX7_type_27 : decode cX7_type 27 = .ok (.aload_n 0, 1) := by decide +kernel
theorem dX7_type_28 : decode cX7_type 28 = .ok (.getfield 12, 3) := by decide +kernel
theorem dX7_type_31 : decode cX7_type 31 = .ok (.lload_n 1, 1) := by decide +kernel
theorem dX7_type_32 : decode cX7_type 32 = .ok (.iload_n 3, 1) := by decide +kernel
theorem dX7_type_33 : decode cX7_type 33 = .ok (.invokevirtual 62, 3) := by decide +kernel
theorem dX7_type_36 : decode cX7_type 36 = .ok (.aload_n 0, 1) := by decide +kernel
theorem dX7_type_37 : decode cX7_type 37 = .ok (.getfield 12, 3) := by decide +kernel
theorem dX7_type_40 : decode cX7_type 40 = .ok (.getfield 66, 3) := by decide +kernel
theorem dX7_type_43 : decode cX7_type 43 = .ok (.ireturn, 1) := by decide +kernel
theorem dX7_clear_0 : decode cX7_clear 0 = .ok (.aload_n 0, 1) := by decide +kernel
theorem dX7_clear_1 : decode cX7_clear 1 = .ok (.getfield 12, 3) := by decide +kernel
theorem dX7_clear_4 : decode cX7_clear 4 = .ok (.getfield 66, 3) := by decide +kernel
theorem dX7_clear_7 : decode cX7_clear 7 = .ok (.istore_n 1, 1) := by decide +kernel
theorem dX7_clear_8 : decode cX7_clear 8 = .ok (.aload_n 0, 1) := by decide +kernel
theorem dX7_clear_9 : decode cX7_clear 9 = .ok (.getfield 12, 3) := by decide +kernel
theorem dX7_clear_12 : decode cX7_clear 12 = .ok (.iconst 0, 1) := by decide +kernel
theorem dX7_clear_13 : decode cX7_clear 13 = .ok (.putfield 66, 3) := by decide +kernel
theorem dX7_clear_16 : decode cX7_clear 16 = .ok (.iload_n 1, 1) := by decide +kernel
theorem dX7_clear_17 : decode cX7_clear 17 = .ok (.ireturn, 1) := by decide +kernel
set_option maxRecDepth 20000 in
theorem ggX7_walls_X2_readInto : GoodIn wsX7_walls wsX2_readInto := goodIn_r _ [14, 15, 16, 17, 18, 19, 20, 21, 22, 23, 24, 25, 26, 27, 28, 29, 30, 31, 32, 33, 34, 35, 36, 37, 38, 39, 40, 41, 42, 43, 44, 45, 46, 47, 48, 49, 50, 51, 52, 53, 54, 55, 56, 57, 58, 59, 60, 61, 62, 63, 64, 65, 66, 67, 68, 69, 70, 71, 72, 73, 74, 75, 76, 77, 78, 79, 80, 81, 82, 83, 84, 85, 86, 87, 88, 89, 90, 91, 92, 93, 94, 95, 96, 97, 98, 99, 100, 101, 102, 103, 104, 105, 106, 107, 108, 109, 110, 111, 112, 113, 114, 115, 116, 117, 118, 119, 120, 121, 122, 123, 124, 125, 126, 127, 128, 129, 130, 131, 132, 133, 134, 135, 136, 137, 138, 139, 13, 140, 141, 142, 143, 144, 145, 146, 147, 148, 149, 150, 151, 152, 153, 154, 155, 156, 157, 158, 159, 160, 161, 162, 163, 164, 165, 166, 167, 168, 169, 170, 171, 172, 173, 174, 175, 176, 177, 178, 179, 180, 181, 182, 183, 184, 185, 186, 187, 188, 189, 190, 191, 192, 193, 194, 195, 196, 197, 226, 227, 228, 229, 230, 231, 232, 233, 234, 235, 220, 221, 236, 237, 238, 239, 240, 241, 242, 243, 244] (by decide +kernel) (by decide +kernel)
set_option maxRecDepth 20000 in
theorem gX7_walls_X2_readInto : GoodIn wsX7_walls (wsV RX7 70 RX2 yX2_readInto wsX2_readInto) := goodIn_app (goodIn_of _ (by decide +kernel)) ggX7_walls_X2_readInto
set_option maxRecDepth 20000 in
theorem ggX7_walls_X1_begin : GoodIn wsX7_walls wsX1_begin := goodIn_r _ [202, 203, 204, 205, 206, 207, 208, 209, 245, 246, 247, 248, 249, 250, 251, 252, 236, 237, 238, 239, 240, 241, 242, 243, 244] (by decide +kernel) (by decide +kernel)
set_option maxRecDepth 20000 in
theorem gX7_walls_X1_begin : GoodIn wsX7_walls (wsV RX7 74 RX1 yX1_begin wsX1_begin) := goodIn_app (goodIn_of _ (by decide +kernel)) ggX7_walls_X1_begin
theorem dX7_walls_0 : decode cX7_walls 0 = .ok (.aload_n 0, 1) := by decide +kernel
theorem dX7_walls_1 : decode cX7_walls 1 = .ok (.getfield 19, 3) := by decide +kernel
theorem dX7_walls_4 : decode cX7_walls 4 = .ok (.aload_n 0, 1) := by decide +kernel
theorem dX7_walls_5 : decode cX7_walls 5 = .ok (.getfield 55, 3) := by decide +kernel
theorem dX7_walls_8 : decode cX7_walls 8 = .ok (.aload_n 0, 1) := by decide +kernel
theorem dX7_walls_9 : decode cX7_walls 9 = .ok (.getfield 12, 3) := by decide +kernel
theorem dX7_walls_12 : decode cX7_walls 12 = .ok (.invokevirtual 70, 3) := by decide +kernel
theorem dX7_walls_15 : decode cX7_walls 15 = .ok (.istore_n 1, 1) := by decide +kernel
theorem dX7_walls_16 : decode cX7_walls 16 = .ok (.iload_n 1, 1) := by decide +kernel
theorem dX7_walls_17 : decode cX7_walls 17 = .ok (.ifCond .ge 5, 3) := by decide +kernel
theorem dX7_walls_20 : decode cX7_walls 20 = .ok (.iload_n 1, 1) := by decide +kernel
theorem dX7_walls_21 : decode cX7_walls 21 = .ok (.ireturn, 1) := by decide +kernel
theorem dX7_walls_22 : decode cX7_walls 22 = .ok (.aload_n 0, 1) := by decide +kernel
theorem dX7_walls_23 : decode cX7_walls 23 = .ok (.getfield 51, 3) := by decide +kernel
theorem dX7_walls_26 : decode cX7_walls 26 = .ok (.astore_n 2, 1) := by decide +kernel
theorem dX7_walls_27 : decode cX7_walls 27 = .ok (.aload_n 0, 1) := by decide +kernel
theorem dX7_walls_28 : decode cX7_walls 28 = .ok (.aload_n 0, 1) := by decide +kernel
theorem dX7_walls_29 : decode cX7_walls 29 = .ok (.getfield 55, 3) := by decide +kernel
theorem dX7_walls_32 : decode cX7_walls 32 = .ok (.putfield 51, 3) := by decide +kernel
theorem dX7_walls_35 : decode cX7_walls 35 = .ok (.aload_n 0, 1) := by decide +kernel
theorem dX7_walls_36 : decode cX7_walls 36 = .ok (.aload_n 2, 1) := by decide +kernel
theorem dX7_walls_37 : decode cX7_walls 37 = .ok (.putfield 55, 3) := by decide +kernel
theorem dX7_walls_40 : decode cX7_walls 40 = .ok (.aload_n 0, 1) := by decide +kernel
theorem dX7_walls_41 : decode cX7_walls 41 = .ok (.getfield 12, 3) := by decide +kernel
theorem dX7_walls_44 : decode cX7_walls 44 = .ok (.iconst 0, 1) := by decide +kernel
theorem dX7_walls_45 : decode cX7_walls 45 = .ok (.putfield 66, 3) := by decide +kernel
theorem dX7_walls_48 : decode cX7_walls 48 = .ok (.aload_n 0, 1) := by decide +kernel
theorem dX7_walls_49 : decode cX7_walls 49 = .ok (.getfield 26, 3) := by decide +kernel
theorem dX7_walls_52 : decode cX7_walls 52 = .ok (.aload_n 0, 1) := by decide +kernel
theorem dX7_walls_53 : decode cX7_walls 53 = .ok (.getfield 51, 3) := by decide +kernel
theorem dX7_walls_56 : decode cX7_walls 56 = .ok (.invokevirtual 74, 3) := by decide +kernel
theorem dX7_walls_59 : decode cX7_walls 59 = .ok (.aload_n 0, 1) := by decide +kernel
theorem dX7_walls_60 : decode cX7_walls 60 = .ok (.getfield 33, 3) := by decide +kernel
theorem dX7_walls_63 : decode cX7_walls 63 = .ok (.iconst 0, 1) := by decide +kernel
theorem dX7_walls_64 : decode cX7_walls 64 = .ok (.putfield 78, 3) := by decide +kernel
theorem dX7_walls_67 : decode cX7_walls 67 = .ok (.aload_n 0, 1) := by decide +kernel
theorem dX7_walls_68 : decode cX7_walls 68 = .ok (.iconst 0, 1) := by decide +kernel
theorem dX7_walls_69 : decode cX7_walls 69 = .ok (.putfield 81, 3) := by decide +kernel
theorem dX7_walls_72 : decode cX7_walls 72 = .ok (.iload_n 1, 1) := by decide +kernel
theorem dX7_walls_73 : decode cX7_walls 73 = .ok (.ireturn, 1) := by decide +kernel
set_option maxRecDepth 20000 in
theorem ggX7_wall_X7_isWall : GoodIn wsX7_wall wsX7_isWall := goodIn_r _ [13, 3, 14, 24, 25, 26, 27, 28, 29, 30, 31, 32, 33, 42, 43, 44, 45, 46, 47, 48, 49, 50] (by decide +kernel) (by decide +kernel)
set_option maxRecDepth 20000 in
theorem gX7_wall_X7_isWall : GoodIn wsX7_wall (wsV RX7 84 RX7 yX7_isWall wsX7_isWall) := goodIn_app (goodIn_of _ (by decide +kernel)) ggX7_wall_X7_isWall
set_option maxRecDepth 20000 in
theorem ggX7_wall_X6_dark : GoodIn wsX7_wall wsX6_dark := goodIn_r _ [19, 20, 42, 43, 44, 45, 46, 47, 48, 49, 50] (by decide +kernel) (by decide +kernel)
set_option maxRecDepth 20000 in
theorem gX7_wall_X6_dark : GoodIn wsX7_wall (wsV RX7 100 RX6 yX6_dark wsX6_dark) := goodIn_app (goodIn_of _ (by decide +kernel)) ggX7_wall_X6_dark
set_option maxRecDepth 20000 in
theorem ggX7_wall_X7_bit : GoodIn wsX7_wall wsX7_bit := goodIn_r _ [23] (by decide +kernel) (by decide +kernel)
set_option maxRecDepth 20000 in
theorem gX7_wall_X7_bit : GoodIn wsX7_wall (va_wsS RX7 107 yX7_bit wsX7_bit) := goodIn_app (goodIn_of _ (by decide +kernel)) ggX7_wall_X7_bit
theorem dX7_wall_0 : decode cX7_wall 0 = .ok (.aload_n 0, 1) := by decide +kernel
theorem dX7_wall_1 : decode cX7_wall 1 = .ok (.iload_n 1, 1) := by decide +kernel
theorem dX7_wall_2 : decode cX7_wall 2 = .ok (.invokevirtual 84, 3) := by decide +kernel
theorem dX7_wall_5 : decode cX7_wall 5 = .ok (.ifCond .ne 5, 3) := by decide +kernel
theorem dX7_wall_8 : decode cX7_wall 8 = .ok (.iconst (-1), 1) := by decide +kernel
theorem dX7_wall_9 : decode cX7_wall 9 = .ok (.ireturn, 1) := by decide +kernel
theorem dX7_wall_10 : decode cX7_wall 10 = .ok (.iload_n 2, 1) := by decide +kernel
theorem dX7_wall_11 : decode cX7_wall 11 = .ok (.tableswitch 114 0 6 #[41, 51, 61, 71, 81, 90, 102], 41) := by decide +kernel
theorem dX7_wall_52 : decode cX7_wall 52 = .ok (.aload_n 0, 1) := by decide +kernel
theorem dX7_wall_53 : decode cX7_wall 53 = .ok (.getfield 26, 3) := by decide +kernel
theorem dX7_wall_56 : decode cX7_wall 56 = .ok (.getfield 87, 3) := by decide +kernel
theorem dX7_wall_59 : decode cX7_wall 59 = .ok (.iload_n 1, 1) := by decide +kernel
theorem dX7_wall_60 : decode cX7_wall 60 = .ok (.iaload, 1) := by decide +kernel
theorem dX7_wall_61 : decode cX7_wall 61 = .ok (.ireturn, 1) := by decide +kernel
theorem dX7_wall_62 : decode cX7_wall 62 = .ok (.aload_n 0, 1) := by decide +kernel
theorem dX7_wall_63 : decode cX7_wall 63 = .ok (.getfield 51, 3) := by decide +kernel
theorem dX7_wall_66 : decode cX7_wall 66 = .ok (.getfield 91, 3) := by decide +kernel
theorem dX7_wall_69 : decode cX7_wall 69 = .ok (.iload_n 1, 1) := by decide +kernel
theorem dX7_wall_70 : decode cX7_wall 70 = .ok (.iaload, 1) := by decide +kernel
theorem dX7_wall_71 : decode cX7_wall 71 = .ok (.ireturn, 1) := by decide +kernel
theorem dX7_wall_72 : decode cX7_wall 72 = .ok (.aload_n 0, 1) := by decide +kernel
theorem dX7_wall_73 : decode cX7_wall 73 = .ok (.getfield 51, 3) := by decide +kernel
theorem dX7_wall_76 : decode cX7_wall 76 = .ok (.getfield 94, 3) := by decide +kernel
theorem dX7_wall_79 : decode cX7_wall 79 = .ok (.iload_n 1, 1) := by decide +kernel
theorem dX7_wall_80 : decode cX7_wall 80 = .ok (.iaload, 1) := by decide +kernel
theorem dX7_wall_81 : decode cX7_wall 81 = .ok (.ireturn, 1) := by decide +kernel
theorem dX7_wall_82 : decode cX7_wall 82 = .ok (.aload_n 0, 1) := by decide +kernel
theorem dX7_wall_83 : decode cX7_wall 83 = .ok (.getfield 51, 3) := by decide +kernel
theorem dX7_wall_86 : decode cX7_wall 86 = .ok (.getfield 97, 3) := by decide +kernel
theorem dX7_wall_89 : decode cX7_wall 89 = .ok (.iload_n 1, 1) := by decide +kernel
theorem dX7_wall_90 : decode cX7_wall 90 = .ok (.iaload, 1) := by decide +kernel
theorem dX7_wall_91 : decode cX7_wall 91 = .ok (.ireturn, 1) := by decide +kernel
theorem dX7_wall_92 : decode cX7_wall 92 = .ok (.aload_n 0, 1) := by decide +kernel
theorem dX7_wall_93 : decode cX7_wall 93 = .ok (.getfield 51, 3) := by decide +kernel
theorem dX7_wall_96 : decode cX7_wall 96 = .ok (.iload_n 1, 1) := by decide +kernel
theorem dX7_wall_97 : decode cX7_wall 97 = .ok (.invokevirtual 100, 3) := by decide +kernel
theorem dX7_wall_100 : decode cX7_wall 100 = .ok (.ireturn, 1) := by decide +kernel
theorem dX7_wall_101 : decode cX7_wall 101 = .ok (.aload_n 0, 1) := by decide +kernel
theorem dX7_wall_102 : decode cX7_wall 102 = .ok (.getfield 26, 3) := by decide +kernel
theorem dX7_wall_105 : decode cX7_wall 105 = .ok (.getfield 104, 3) := by decide +kernel
theorem dX7_wall_108 : decode cX7_wall 108 = .ok (.iload_n 1, 1) := by decide +kernel
theorem dX7_wall_109 : decode cX7_wall 109 = .ok (.invokestatic 107, 3) := by decide +kernel
theorem dX7_wall_112 : decode cX7_wall 112 = .ok (.ireturn, 1) := by decide +kernel
theorem dX7_wall_113 : decode cX7_wall 113 = .ok (.aload_n 0, 1) := by decide +kernel
theorem dX7_wall_114 : decode cX7_wall 114 = .ok (.getfield 26, 3) := by decide +kernel
theorem dX7_wall_117 : decode cX7_wall 117 = .ok (.getfield 111, 3) := by decide +kernel
theorem dX7_wall_120 : decode cX7_wall 120 = .ok (.iload_n 1, 1) := by decide +kernel
theorem dX7_wall_121 : decode cX7_wall 121 = .ok (.invokestatic 107, 3) := by decide +kernel
theorem dX7_wall_124 : decode cX7_wall 124 = .ok (.ireturn, 1) := by decide +kernel
theorem dX7_wall_125 : decode cX7_wall 125 = .ok (.iconst (-1), 1) := by decide +kernel
theorem dX7_wall_126 : decode cX7_wall 126 = .ok (.ireturn, 1) := by decide +kernel
set_option maxRecDepth 20000 in
theorem ggX7_sees_X7_isWall : GoodIn wsX7_sees wsX7_isWall := goodIn_r _ [7, 1, 8, 9, 10, 11, 12, 13, 14, 15, 16, 17, 18, 19, 20, 21, 22, 23, 24, 25, 26, 27] (by decide +kernel) (by decide +kernel)
set_option maxRecDepth 20000 in
theorem gX7_sees_X7_isWall : GoodIn wsX7_sees (wsV RX7 84 RX7 yX7_isWall wsX7_isWall) := goodIn_app (goodIn_of _ (by decide +kernel)) ggX7_sees_X7_isWall
theorem dX7_sees_0 : decode cX7_sees 0 = .ok (.aload_n 0, 1) := by decide +kernel
theorem dX7_sees_1 : decode cX7_sees 1 = .ok (.iload_n 1, 1) := by decide +kernel
theorem dX7_sees_2 : decode cX7_sees 2 = .ok (.invokevirtual 84, 3) := by decide +kernel
theorem dX7_sees_5 : decode cX7_sees 5 = .ok (.ifCond .eq 16, 3) := by decide +kernel
theorem dX7_sees_8 : decode cX7_sees 8 = .ok (.aload_n 0, 1) := by decide +kernel
theorem dX7_sees_9 : decode cX7_sees 9 = .ok (.iload_n 2, 1) := by decide +kernel
theorem dX7_sees_10 : decode cX7_sees 10 = .ok (.invokevirtual 84, 3) := by decide +kernel
theorem dX7_sees_13 : decode cX7_sees 13 = .ok (.ifCond .eq 8, 3) := by decide +kernel
theorem dX7_sees_16 : decode cX7_sees 16 = .ok (.iload_n 1, 1) := by decide +kernel
theorem dX7_sees_17 : decode cX7_sees 17 = .ok (.iload_n 2, 1) := by decide +kernel
theorem dX7_sees_18 : decode cX7_sees 18 = .ok (.if_icmp .ne 5, 3) := by decide +kernel
theorem dX7_sees_21 : decode cX7_sees 21 = .ok (.iconst (-1), 1) := by decide +kernel
theorem dX7_sees_22 : decode cX7_sees 22 = .ok (.ireturn, 1) := by decide +kernel
theorem dX7_sees_23 : decode cX7_sees 23 = .ok (.aload_n 0, 1) := by decide +kernel
theorem dX7_sees_24 : decode cX7_sees 24 = .ok (.getfield 51, 3) := by decide +kernel
theorem dX7_sees_27 : decode cX7_sees 27 = .ok (.getfield 114, 3) := by decide +kernel
theorem dX7_sees_30 : decode cX7_sees 30 = .ok (.iload_n 1, 1) := by decide +kernel
theorem dX7_sees_31 : decode cX7_sees 31 = .ok (.bipush 6, 2) := by decide +kernel
theorem dX7_sees_33 : decode cX7_sees 33 = .ok (.imul, 1) := by decide +kernel
theorem dX7_sees_34 : decode cX7_sees 34 = .ok (.iload_n 2, 1) := by decide +kernel
theorem dX7_sees_35 : decode cX7_sees 35 = .ok (.iadd, 1) := by decide +kernel
theorem dX7_sees_36 : decode cX7_sees 36 = .ok (.iaload, 1) := by decide +kernel
theorem dX7_sees_37 : decode cX7_sees 37 = .ok (.ireturn, 1) := by decide +kernel
set_option maxRecDepth 20000 in
theorem ggX7_hour_X1_goBy : GoodIn wsX7_hour wsX1_goBy := goodIn_r _ [8, 9, 10, 11, 12, 13, 14, 15, 16, 17, 18, 19, 20, 21, 22, 7, 23, 24, 25, 26, 27, 38, 39, 40, 41, 42, 43, 44, 45, 46, 47, 48, 49, 50, 51, 52, 53, 54] (by decide +kernel) (by decide +kernel)
set_option maxRecDepth 20000 in
theorem gX7_hour_X1_goBy : GoodIn wsX7_hour (wsV RX7 119 RX1 yX1_goBy wsX1_goBy) := goodIn_app (goodIn_of _ (by decide +kernel)) ggX7_hour_X1_goBy
theorem dX7_hour_0 : decode cX7_hour 0 = .ok (.aload_n 0, 1) := by decide +kernel
theorem dX7_hour_1 : decode cX7_hour 1 = .ok (.getfield 26, 3) := by decide +kernel
theorem dX7_hour_4 : decode cX7_hour 4 = .ok (.getfield 117, 3) := by decide +kernel
theorem dX7_hour_7 : decode cX7_hour 7 = .ok (.sipush 999, 3) := by decide +kernel
theorem dX7_hour_10 : decode cX7_hour 10 = .ok (.if_icmp .lt 6, 3) := by decide +kernel
theorem dX7_hour_13 : decode cX7_hour 13 = .ok (.bipush (-2), 2) := by decide +kernel
theorem dX7_hour_15 : decode cX7_hour 15 = .ok (.ireturn, 1) := by decide +kernel
theorem dX7_hour_16 : decode cX7_hour 16 = .ok (.aload_n 0, 1) := by decide +kernel
theorem dX7_hour_17 : decode cX7_hour 17 = .ok (.getfield 26, 3) := by decide +kernel
theorem dX7_hour_20 : decode cX7_hour 20 = .ok (.aload_n 0, 1) := by decide +kernel
theorem dX7_hour_21 : decode cX7_hour 21 = .ok (.getfield 51, 3) := by decide +kernel
theorem dX7_hour_24 : decode cX7_hour 24 = .ok (.invokevirtual 119, 3) := by decide +kernel
theorem dX7_hour_27 : decode cX7_hour 27 = .ok (.ireturn, 1) := by decide +kernel
set_option maxRecDepth 20000 in
theorem ggX7_shut_X7_isWall : GoodIn wsX7_shut wsX7_isWall := goodIn_r _ [7, 8, 9, 36, 37, 38, 39, 40, 41, 42, 43, 44, 45, 54, 55, 56, 57, 58, 59, 60, 61, 62] (by decide +kernel) (by decide +kernel)
set_option maxRecDepth 20000 in
theorem gX7_shut_X7_isWall : GoodIn wsX7_shut (wsV RX7 84 RX7 yX7_isWall wsX7_isWall) := goodIn_app (goodIn_of _ (by decide +kernel)) ggX7_shut_X7_isWall
set_option maxRecDepth 20000 in
theorem ggX7_shut_X7_isBit : GoodIn wsX7_shut wsX7_isBit := goodIn_r _ [12] (by decide +kernel) (by decide +kernel)
set_option maxRecDepth 20000 in
theorem gX7_shut_X7_isBit : GoodIn wsX7_shut (va_wsS RX7 123 yX7_isBit wsX7_isBit) := goodIn_app (goodIn_of _ (by decide +kernel)) ggX7_shut_X7_isBit
set_option maxRecDepth 20000 in
theorem ggX7_shut_X7_bit : GoodIn wsX7_shut wsX7_bit := goodIn_r _ [15] (by decide +kernel) (by decide +kernel)
set_option maxRecDepth 20000 in
theorem gX7_shut_X7_bit : GoodIn wsX7_shut (va_wsS RX7 107 yX7_bit wsX7_bit) := goodIn_app (goodIn_of _ (by decide +kernel)) ggX7_shut_X7_bit
set_option maxRecDepth 20000 in
theorem ggX7_shut_X1_change : GoodIn wsX7_shut wsX1_change := goodIn_r _ [20, 21, 22, 23, 24, 25, 19, 26, 27, 28, 46, 47, 48, 49, 50, 51, 52, 53] (by decide +kernel) (by decide +kernel)
set_option maxRecDepth 20000 in
theorem gX7_shut_X1_change : GoodIn wsX7_shut (wsV RX7 126 RX1 yX1_change wsX1_change) := goodIn_app (goodIn_of _ (by decide +kernel)) ggX7_shut_X1_change
set_option maxRecDepth 20000 in
theorem ggX7_shut_J6_bitCount_0f7a4 : GoodIn wsX7_shut wsJ6_bitCount_0f7a4 := goodIn_r _ [32, 33, 34, 35] (by decide +kernel) (by decide +kernel)
set_option maxRecDepth 20000 in
theorem gX7_shut_J6_bitCount_0f7a4 : GoodIn wsX7_shut (va_wsS RX7 130 yJ6_bitCount_0f7a4 wsJ6_bitCount_0f7a4) := goodIn_app (goodIn_of _ (by decide +kernel)) ggX7_shut_J6_bitCount_0f7a4
theorem dX7_shut_0 : decode cX7_shut 0 = .ok (.aload_n 0, 1) := by decide +kernel
theorem dX7_shut_1 : decode cX7_shut 1 = .ok (.iload_n 1, 1) := by decide +kernel
theorem dX7_shut_2 : decode cX7_shut 2 = .ok (.invokevirtual 84, 3) := by decide +kernel
theorem dX7_shut_5 : decode cX7_shut 5 = .ok (.ifCond .eq 10, 3) := by decide +kernel
theorem dX7_shut_8 : decode cX7_shut 8 = .ok (.iload_n 2, 1) := by decide +kernel
theorem dX7_shut_9 : decode cX7_shut 9 = .ok (.invokestatic 123, 3) := by decide +kernel
theorem dX7_shut_12 : decode cX7_shut 12 = .ok (.ifCond .ne 5, 3) := by decide +kernel
theorem dX7_shut_15 : decode cX7_shut 15 = .ok (.iconst (-1), 1) := by decide +kernel
theorem dX7_shut_16 : decode cX7_shut 16 = .ok (.ireturn, 1) := by decide +kernel
theorem dX7_shut_17 : decode cX7_shut 17 = .ok (.aload_n 0, 1) := by decide +kernel
theorem dX7_shut_18 : decode cX7_shut 18 = .ok (.getfield 26, 3) := by decide +kernel
theorem dX7_shut_21 : decode cX7_shut 21 = .ok (.getfield 104, 3) := by decide +kernel
theorem dX7_shut_24 : decode cX7_shut 24 = .ok (.iload_n 1, 1) := by decide +kernel
theorem dX7_shut_25 : decode cX7_shut 25 = .ok (.invokestatic 107, 3) := by decide +kernel
theorem dX7_shut_28 : decode cX7_shut 28 = .ok (.iload_n 2, 1) := by decide +kernel
theorem dX7_shut_29 : decode cX7_shut 29 = .ok (.if_icmp .ne 6, 3) := by decide +kernel
theorem dX7_shut_32 : decode cX7_shut 32 = .ok (.bipush (-2), 2) := by decide +kernel
theorem dX7_shut_34 : decode cX7_shut 34 = .ok (.ireturn, 1) := by decide +kernel
theorem dX7_shut_35 : decode cX7_shut 35 = .ok (.aload_n 0, 1) := by decide +kernel
theorem dX7_shut_36 : decode cX7_shut 36 = .ok (.getfield 26, 3) := by decide +kernel
theorem dX7_shut_39 : decode cX7_shut 39 = .ok (.iload_n 1, 1) := by decide +kernel
theorem dX7_shut_40 : decode cX7_shut 40 = .ok (.invokevirtual 126, 3) := by decide +kernel
theorem dX7_shut_43 : decode cX7_shut 43 = .ok (.aload_n 0, 1) := by decide +kernel
theorem dX7_shut_44 : decode cX7_shut 44 = .ok (.getfield 26, 3) := by decide +kernel
theorem dX7_shut_47 : decode cX7_shut 47 = .ok (.getfield 104, 3) := by decide +kernel
theorem dX7_shut_50 : decode cX7_shut 50 = .ok (.invokestatic 130, 3) := by decide +kernel
theorem dX7_shut_53 : decode cX7_shut 53 = .ok (.ireturn, 1) := by decide +kernel
set_option maxRecDepth 20000 in
theorem ggX7_mirror_X7_isWall : GoodIn wsX7_mirror wsX7_isWall := goodIn_r _ [7, 8, 9, 36, 37, 38, 39, 40, 41, 42, 43, 44, 45, 54, 55, 56, 57, 58, 59, 60, 61, 62] (by decide +kernel) (by decide +kernel)
set_option maxRecDepth 20000 in
theorem gX7_mirror_X7_isWall : GoodIn wsX7_mirror (wsV RX7 84 RX7 yX7_isWall wsX7_isWall) := goodIn_app (goodIn_of _ (by decide +kernel)) ggX7_mirror_X7_isWall
set_option maxRecDepth 20000 in
theorem ggX7_mirror_X7_isBit : GoodIn wsX7_mirror wsX7_isBit := goodIn_r _ [12] (by decide +kernel) (by decide +kernel)
set_option maxRecDepth 20000 in
theorem gX7_mirror_X7_isBit : GoodIn wsX7_mirror (va_wsS RX7 123 yX7_isBit wsX7_isBit) := goodIn_app (goodIn_of _ (by decide +kernel)) ggX7_mirror_X7_isBit
set_option maxRecDepth 20000 in
theorem ggX7_mirror_X7_bit : GoodIn wsX7_mirror wsX7_bit := goodIn_r _ [15] (by decide +kernel) (by decide +kernel)
set_option maxRecDepth 20000 in
theorem gX7_mirror_X7_bit : GoodIn wsX7_mirror (va_wsS RX7 107 yX7_bit wsX7_bit) := goodIn_app (goodIn_of _ (by decide +kernel)) ggX7_mirror_X7_bit
set_option maxRecDepth 20000 in
theorem ggX7_mirror_X1_change : GoodIn wsX7_mirror wsX1_change := goodIn_r _ [20, 21, 22, 23, 24, 25, 19, 26, 27, 28, 46, 47, 48, 49, 50, 51, 52, 53] (by decide +kernel) (by decide +kernel)
set_option maxRecDepth 20000 in
theorem gX7_mirror_X1_change : GoodIn wsX7_mirror (wsV RX7 126 RX1 yX1_change wsX1_change) := goodIn_app (goodIn_of _ (by decide +kernel)) ggX7_mirror_X1_change
set_option maxRecDepth 20000 in
theorem ggX7_mirror_J6_bitCount_0f7a4 : GoodIn wsX7_mirror wsJ6_bitCount_0f7a4 := goodIn_r _ [32, 33, 34, 35] (by decide +kernel) (by decide +kernel)
set_option maxRecDepth 20000 in
theorem gX7_mirror_J6_bitCount_0f7a4 : GoodIn wsX7_mirror (va_wsS RX7 130 yJ6_bitCount_0f7a4 wsJ6_bitCount_0f7a4) := goodIn_app (goodIn_of _ (by decide +kernel)) ggX7_mirror_J6_bitCount_0f7a4
theorem dX7_mirror_0 : decode cX7_mirror 0 = .ok (.aload_n 0, 1) := by decide +kernel
theorem dX7_mirror_1 : decode cX7_mirror 1 = .ok (.iload_n 1, 1) := by decide +kernel
theorem dX7_mirror_2 : decode cX7_mirror 2 = .ok (.invokevirtual 84, 3) := by decide +kernel
theorem dX7_mirror_5 : decode cX7_mirror 5 = .ok (.ifCond .eq 10, 3) := by decide +kernel
theorem dX7_mirror_8 : decode cX7_mirror 8 = .ok (.iload_n 2, 1) := by decide +kernel
theorem dX7_mirror_9 : decode cX7_mirror 9 = .ok (.invokestatic 123, 3) := by decide +kernel
theorem dX7_mirror_12 : decode cX7_mirror 12 = .ok (.ifCond .ne 5, 3) := by decide +kernel
theorem dX7_mirror_15 : decode cX7_mirror 15 = .ok (.iconst (-1), 1) := by decide +kernel
theorem dX7_mirror_16 : decode cX7_mirror 16 = .ok (.ireturn, 1) := by decide +kernel
theorem dX7_mirror_17 : decode cX7_mirror 17 = .ok (.aload_n 0, 1) := by decide +kernel
theorem dX7_mirror_18 : decode cX7_mirror 18 = .ok (.getfield 26, 3) := by decide +kernel
theorem dX7_mirror_21 : decode cX7_mirror 21 = .ok (.getfield 111, 3) := by decide +kernel
theorem dX7_mirror_24 : decode cX7_mirror 24 = .ok (.iload_n 1, 1) := by decide +kernel
theorem dX7_mirror_25 : decode cX7_mirror 25 = .ok (.invokestatic 107, 3) := by decide +kernel
theorem dX7_mirror_28 : decode cX7_mirror 28 = .ok (.iload_n 2, 1) := by decide +kernel
theorem dX7_mirror_29 : decode cX7_mirror 29 = .ok (.if_icmp .ne 6, 3) := by decide +kernel
theorem dX7_mirror_32 : decode cX7_mirror 32 = .ok (.bipush (-2), 2) := by decide +kernel
theorem dX7_mirror_34 : decode cX7_mirror 34 = .ok (.ireturn, 1) := by decide +kernel
theorem dX7_mirror_35 : decode cX7_mirror 35 = .ok (.aload_n 0, 1) := by decide +kernel
theorem dX7_mirror_36 : decode cX7_mirror 36 = .ok (.getfield 26, 3) := by decide +kernel
theorem dX7_mirror_39 : decode cX7_mirror 39 = .ok (.bipush 6, 2) := by decide +kernel
theorem dX7_mirror_41 : decode cX7_mirror 41 = .ok (.iload_n 1, 1) := by decide +kernel
theorem dX7_mirror_42 : decode cX7_mirror 42 = .ok (.iadd, 1) := by decide +kernel
theorem dX7_mirror_43 : decode cX7_mirror 43 = .ok (.invokevirtual 126, 3) := by decide +kernel
theorem dX7_mirror_46 : decode cX7_mirror 46 = .ok (.aload_n 0, 1) := by decide +kernel
theorem dX7_mirror_47 : decode cX7_mirror 47 = .ok (.getfield 26, 3) := by decide +kernel
theorem dX7_mirror_50 : decode cX7_mirror 50 = .ok (.getfield 111, 3) := by decide +kernel
theorem dX7_mirror_53 : decode cX7_mirror 53 = .ok (.invokestatic 130, 3) := by decide +kernel
theorem dX7_mirror_56 : decode cX7_mirror 56 = .ok (.ireturn, 1) := by decide +kernel
set_option maxRecDepth 20000 in
theorem ggX7_undo_X1_changeBack : GoodIn wsX7_undo wsX1_changeBack := goodIn_r _ [7, 8, 9, 10, 11, 12, 6, 13, 14, 15, 26, 27, 28, 29, 30, 31, 32, 33] (by decide +kernel) (by decide +kernel)
set_option maxRecDepth 20000 in
theorem gX7_undo_X1_changeBack : GoodIn wsX7_undo (wsV RX7 138 RX1 yX1_changeBack wsX1_changeBack) := goodIn_app (goodIn_of _ (by decide +kernel)) ggX7_undo_X1_changeBack
theorem dX7_undo_0 : decode cX7_undo 0 = .ok (.aload_n 0, 1) := by decide +kernel
theorem dX7_undo_1 : decode cX7_undo 1 = .ok (.getfield 26, 3) := by decide +kernel
theorem dX7_undo_4 : decode cX7_undo 4 = .ok (.getfield 135, 3) := by decide +kernel
theorem dX7_undo_7 : decode cX7_undo 7 = .ok (.ifCond .gt 6, 3) := by decide +kernel
theorem dX7_undo_10 : decode cX7_undo 10 = .ok (.bipush (-2), 2) := by decide +kernel
theorem dX7_undo_12 : decode cX7_undo 12 = .ok (.ireturn, 1) := by decide +kernel
theorem dX7_undo_13 : decode cX7_undo 13 = .ok (.aload_n 0, 1) := by decide +kernel
theorem dX7_undo_14 : decode cX7_undo 14 = .ok (.getfield 26, 3) := by decide +kernel
theorem dX7_undo_17 : decode cX7_undo 17 = .ok (.invokevirtual 138, 3) := by decide +kernel
theorem dX7_undo_20 : decode cX7_undo 20 = .ok (.aload_n 0, 1) := by decide +kernel
theorem dX7_undo_21 : decode cX7_undo 21 = .ok (.getfield 26, 3) := by decide +kernel
theorem dX7_undo_24 : decode cX7_undo 24 = .ok (.getfield 135, 3) := by decide +kernel
theorem dX7_undo_27 : decode cX7_undo 27 = .ok (.ireturn, 1) := by decide +kernel
set_option maxRecDepth 20000 in
theorem ggX7_now_X1_warmthOfAll : GoodIn wsX7_now wsX1_warmthOfAll := goodIn_r _ [10, 11, 32, 33, 34, 35, 36, 37, 38, 39] (by decide +kernel) (by decide +kernel)
set_option maxRecDepth 20000 in
theorem gX7_now_X1_warmthOfAll : GoodIn wsX7_now (wsV RX7 142 RX1 yX1_warmthOfAll wsX1_warmthOfAll) := goodIn_app (goodIn_of _ (by decide +kernel)) ggX7_now_X1_warmthOfAll
set_option maxRecDepth 20000 in
theorem ggX7_now_X1_tooWarm : GoodIn wsX7_now wsX1_tooWarm := goodIn_r _ [15, 16, 11, 17, 40, 41, 42, 43, 44, 45, 46, 47, 48, 32, 33, 34, 35, 36, 37, 38, 39] (by decide +kernel) (by decide +kernel)
set_option maxRecDepth 20000 in
theorem gX7_now_X1_tooWarm : GoodIn wsX7_now (wsV RX7 148 RX1 yX1_tooWarm wsX1_tooWarm) := goodIn_app (goodIn_of _ (by decide +kernel)) ggX7_now_X1_tooWarm
set_option maxRecDepth 20000 in
theorem ggX7_now_X1_warmest : GoodIn wsX7_now wsX1_warmest := goodIn_r _ [21, 11, 32, 33, 34, 35, 36, 37, 38, 39] (by decide +kernel) (by decide +kernel)
set_option maxRecDepth 20000 in
theorem gX7_now_X1_warmest : GoodIn wsX7_now (wsV RX7 151 RX1 yX1_warmest wsX1_warmest) := goodIn_app (goodIn_of _ (by decide +kernel)) ggX7_now_X1_warmest
theorem dX7_now_0 : decode cX7_now 0 = .ok (.iload_n 1, 1) := by decide +kernel
theorem dX7_now_1 : decode cX7_now 1 = .ok (.tableswitch 93 0 4 #[35, 43, 58, 66, 78], 35) := by decide +kernel
theorem dX7_now_36 : decode cX7_now 36 = .ok (.aload_n 0, 1) := by decide +kernel
theorem dX7_now_37 : decode cX7_now 37 = .ok (.getfield 26, 3) := by decide +kernel
theorem dX7_now_40 : decode cX7_now 40 = .ok (.getfield 117, 3) := by decide +kernel
theorem dX7_now_43 : decode cX7_now 43 = .ok (.ireturn, 1) := by decide +kernel
theorem dX7_now_44 : decode cX7_now 44 = .ok (.aload_n 0, 1) := by decide +kernel
theorem dX7_now_45 : decode cX7_now 45 = .ok (.getfield 26, 3) := by decide +kernel
theorem dX7_now_48 : decode cX7_now 48 = .ok (.aload_n 0, 1) := by decide +kernel
theorem dX7_now_49 : decode cX7_now 49 = .ok (.getfield 51, 3) := by decide +kernel
theorem dX7_now_52 : decode cX7_now 52 = .ok (.getfield 141, 3) := by decide +kernel
theorem dX7_now_55 : decode cX7_now 55 = .ok (.invokevirtual 142, 3) := by decide +kernel
theorem dX7_now_58 : decode cX7_now 58 = .ok (.ireturn, 1) := by decide +kernel
theorem dX7_now_59 : decode cX7_now 59 = .ok (.aload_n 0, 1) := by decide +kernel
theorem dX7_now_60 : decode cX7_now 60 = .ok (.getfield 26, 3) := by decide +kernel
theorem dX7_now_63 : decode cX7_now 63 = .ok (.getfield 145, 3) := by decide +kernel
theorem dX7_now_66 : decode cX7_now 66 = .ok (.ireturn, 1) := by decide +kernel
theorem dX7_now_67 : decode cX7_now 67 = .ok (.aload_n 0, 1) := by decide +kernel
theorem dX7_now_68 : decode cX7_now 68 = .ok (.getfield 26, 3) := by decide +kernel
theorem dX7_now_71 : decode cX7_now 71 = .ok (.aload_n 0, 1) := by decide +kernel
theorem dX7_now_72 : decode cX7_now 72 = .ok (.getfield 51, 3) := by decide +kernel
theorem dX7_now_75 : decode cX7_now 75 = .ok (.invokevirtual 148, 3) := by decide +kernel
theorem dX7_now_78 : decode cX7_now 78 = .ok (.ireturn, 1) := by decide +kernel
theorem dX7_now_79 : decode cX7_now 79 = .ok (.aload_n 0, 1) := by decide +kernel
theorem dX7_now_80 : decode cX7_now 80 = .ok (.getfield 26, 3) := by decide +kernel
theorem dX7_now_83 : decode cX7_now 83 = .ok (.aload_n 0, 1) := by decide +kernel
theorem dX7_now_84 : decode cX7_now 84 = .ok (.getfield 51, 3) := by decide +kernel
theorem dX7_now_87 : decode cX7_now 87 = .ok (.getfield 141, 3) := by decide +kernel
theorem dX7_now_90 : decode cX7_now 90 = .ok (.invokevirtual 151, 3) := by decide +kernel
theorem dX7_now_93 : decode cX7_now 93 = .ok (.ireturn, 1) := by decide +kernel
theorem dX7_now_94 : decode cX7_now 94 = .ok (.iconst (-1), 1) := by decide +kernel
theorem dX7_now_95 : decode cX7_now 95 = .ok (.ireturn, 1) := by decide +kernel
set_option maxRecDepth 20000 in
theorem ggX7_behind_X7_isWithin : GoodIn wsX7_behind wsX7_isWithin := goodIn_r _ [9] (by decide +kernel) (by decide +kernel)
set_option maxRecDepth 20000 in
theorem gX7_behind_X7_isWithin : GoodIn wsX7_behind (va_wsS RX7 154 yX7_isWithin wsX7_isWithin) := goodIn_app (goodIn_of _ (by decide +kernel)) ggX7_behind_X7_isWithin
set_option maxRecDepth 20000 in
theorem ggX7_behind_X7_isWall : GoodIn wsX7_behind wsX7_isWall := goodIn_r _ [13, 3, 14, 52, 53, 54, 55, 56, 57, 58, 59, 60, 61, 73, 74, 75, 76, 77, 78, 79, 80, 81] (by decide +kernel) (by decide +kernel)
set_option maxRecDepth 20000 in
theorem gX7_behind_X7_isWall : GoodIn wsX7_behind (wsV RX7 84 RX7 yX7_isWall wsX7_isWall) := goodIn_app (goodIn_of _ (by decide +kernel)) ggX7_behind_X7_isWall
set_option maxRecDepth 20000 in
theorem ggX7_behind_X0_setOut : GoodIn wsX7_behind wsX0_setOut := goodIn_r _ [19, 20, 21, 22, 23, 24, 25, 26, 27, 28, 29, 30, 62, 63, 64, 65, 66, 67, 68, 69, 70, 71, 72] (by decide +kernel) (by decide +kernel)
set_option maxRecDepth 20000 in
theorem gX7_behind_X0_setOut : GoodIn wsX7_behind (wsV RX7 158 RX0 yX0_setOut wsX0_setOut) := goodIn_app (goodIn_of _ (by decide +kernel)) ggX7_behind_X0_setOut
set_option maxRecDepth 20000 in
theorem ggX7_behind_X0_goOn : GoodIn wsX7_behind wsX0_goOn := goodIn_r _ [34, 20, 35, 36, 37, 24, 38, 26, 39, 40, 30, 41, 42, 43, 29, 44, 8, 45, 46, 47, 48, 49, 27, 50, 51, 28, 62, 63, 64, 65, 66, 67, 68, 69, 70, 71, 72, 73, 74, 75, 76, 77, 78, 79, 80, 81] (by decide +kernel) (by decide +kernel)
set_option maxRecDepth 20000 in
theorem gX7_behind_X0_goOn : GoodIn wsX7_behind (wsV RX7 162 RX0 yX0_goOn wsX0_goOn) := goodIn_app (goodIn_of _ (by decide +kernel)) ggX7_behind_X0_goOn
theorem dX7_behind_0 : decode cX7_behind 0 = .ok (.iload_n 1, 1) := by decide +kernel
theorem dX7_behind_1 : decode cX7_behind 1 = .ok (.bipush 50, 2) := by decide +kernel
theorem dX7_behind_3 : decode cX7_behind 3 = .ok (.invokestatic 154, 3) := by decide +kernel
theorem dX7_behind_6 : decode cX7_behind 6 = .ok (.ifCond .eq 11, 3) := by decide +kernel
theorem dX7_behind_9 : decode cX7_behind 9 = .ok (.aload_n 0, 1) := by decide +kernel
theorem dX7_behind_10 : decode cX7_behind 10 = .ok (.iload_n 2, 1) := by decide +kernel
theorem dX7_behind_11 : decode cX7_behind 11 = .ok (.invokevirtual 84, 3) := by decide +kernel
theorem dX7_behind_14 : decode cX7_behind 14 = .ok (.ifCond .ne 5, 3) := by decide +kernel
theorem dX7_behind_17 : decode cX7_behind 17 = .ok (.iconst (-1), 1) := by decide +kernel
theorem dX7_behind_18 : decode cX7_behind 18 = .ok (.ireturn, 1) := by decide +kernel
theorem dX7_behind_19 : decode cX7_behind 19 = .ok (.aload_n 0, 1) := by decide +kernel
theorem dX7_behind_20 : decode cX7_behind 20 = .ok (.getfield 40, 3) := by decide +kernel
theorem dX7_behind_23 : decode cX7_behind 23 = .ok (.aload_n 0, 1) := by decide +kernel
theorem dX7_behind_24 : decode cX7_behind 24 = .ok (.getfield 26, 3) := by decide +kernel
theorem dX7_behind_27 : decode cX7_behind 27 = .ok (.invokevirtual 158, 3) := by decide +kernel
theorem dX7_behind_30 : decode cX7_behind 30 = .ok (.aload_n 0, 1) := by decide +kernel
theorem dX7_behind_31 : decode cX7_behind 31 = .ok (.getfield 40, 3) := by decide +kernel
theorem dX7_behind_34 : decode cX7_behind 34 = .ok (.aload_n 0, 1) := by decide +kernel
theorem dX7_behind_35 : decode cX7_behind 35 = .ok (.getfield 51, 3) := by decide +kernel
theorem dX7_behind_38 : decode cX7_behind 38 = .ok (.iload_n 1, 1) := by decide +kernel
theorem dX7_behind_39 : decode cX7_behind 39 = .ok (.invokevirtual 162, 3) := by decide +kernel
theorem dX7_behind_42 : decode cX7_behind 42 = .ok (.aload_n 0, 1) := by decide +kernel
theorem dX7_behind_43 : decode cX7_behind 43 = .ok (.getfield 40, 3) := by decide +kernel
theorem dX7_behind_46 : decode cX7_behind 46 = .ok (.getfield 166, 3) := by decide +kernel
theorem dX7_behind_49 : decode cX7_behind 49 = .ok (.getfield 87, 3) := by decide +kernel
theorem dX7_behind_52 : decode cX7_behind 52 = .ok (.iload_n 2, 1) := by decide +kernel
theorem dX7_behind_53 : decode cX7_behind 53 = .ok (.iaload, 1) := by decide +kernel
theorem dX7_behind_54 : decode cX7_behind 54 = .ok (.ireturn, 1) := by decide +kernel
set_option maxRecDepth 20000 in
theorem ggX7_first_X7_isBit : GoodIn wsX7_first wsX7_isBit := goodIn_r _ [8] (by decide +kernel) (by decide +kernel)
set_option maxRecDepth 20000 in
theorem gX7_first_X7_isBit : GoodIn wsX7_first (va_wsS RX7 123 yX7_isBit wsX7_isBit) := goodIn_app (goodIn_of _ (by decide +kernel)) ggX7_first_X7_isBit
set_option maxRecDepth 20000 in
theorem ggX7_first_X0_setOut : GoodIn wsX7_first wsX0_setOut := goodIn_r _ [13, 14, 15, 16, 17, 18, 19, 20, 21, 22, 23, 24, 65, 66, 67, 68, 69, 70, 71, 72, 73, 74, 75] (by decide +kernel) (by decide +kernel)
set_option maxRecDepth 20000 in
theorem gX7_first_X0_setOut : GoodIn wsX7_first (wsV RX7 158 RX0 yX0_setOut wsX0_setOut) := goodIn_app (goodIn_of _ (by decide +kernel)) ggX7_first_X0_setOut
set_option maxRecDepth 20000 in
theorem ggX7_first_X1_tooWarm : GoodIn wsX7_first wsX1_tooWarm := goodIn_r _ [28, 29, 24, 30, 76, 77, 78, 79, 80, 81, 82, 83, 84, 68, 69, 70, 71, 72, 73, 74, 75] (by decide +kernel) (by decide +kernel)
set_option maxRecDepth 20000 in
theorem gX7_first_X1_tooWarm : GoodIn wsX7_first (wsV RX7 148 RX1 yX1_tooWarm wsX1_tooWarm) := goodIn_app (goodIn_of _ (by decide +kernel)) ggX7_first_X1_tooWarm
set_option maxRecDepth 20000 in
theorem ggX7_first_X7_leastOf : GoodIn wsX7_first wsX7_leastOf := goodIn_r _ [33, 34, 35, 7, 36] (by decide +kernel) (by decide +kernel)
set_option maxRecDepth 20000 in
theorem gX7_first_X7_leastOf : GoodIn wsX7_first (va_wsS RX7 169 yX7_leastOf wsX7_leastOf) := goodIn_app (goodIn_of _ (by decide +kernel)) ggX7_first_X7_leastOf
set_option maxRecDepth 20000 in
theorem ggX7_first_X0_goOn : GoodIn wsX7_first wsX0_goOn := goodIn_r _ [40, 14, 41, 42, 43, 18, 44, 20, 29, 45, 24, 46, 47, 48, 23, 35, 7, 36, 49, 50, 51, 52, 21, 53, 54, 22, 65, 66, 67, 68, 69, 70, 71, 72, 73, 74, 75, 76, 77, 78, 79, 80, 81, 82, 83, 84] (by decide +kernel) (by decide +kernel)
set_option maxRecDepth 20000 in
theorem gX7_first_X0_goOn : GoodIn wsX7_first (wsV RX7 162 RX0 yX0_goOn wsX0_goOn) := goodIn_app (goodIn_of _ (by decide +kernel)) ggX7_first_X0_goOn
theorem dX7_first_0 : decode cX7_first 0 = .ok (.iload_n 1, 1) := by decide +kernel
theorem dX7_first_1 : decode cX7_first 1 = .ok (.invokestatic 123, 3) := by decide +kernel
theorem dX7_first_4 : decode cX7_first 4 = .ok (.ifCond .ne 5, 3) := by decide +kernel
theorem dX7_first_7 : decode cX7_first 7 = .ok (.iconst (-1), 1) := by decide +kernel
theorem dX7_first_8 : decode cX7_first 8 = .ok (.ireturn, 1) := by decide +kernel
theorem dX7_first_9 : decode cX7_first 9 = .ok (.aload_n 0, 1) := by decide +kernel
theorem dX7_first_10 : decode cX7_first 10 = .ok (.getfield 40, 3) := by decide +kernel
theorem dX7_first_13 : decode cX7_first 13 = .ok (.aload_n 0, 1) := by decide +kernel
theorem dX7_first_14 : decode cX7_first 14 = .ok (.getfield 26, 3) := by decide +kernel
theorem dX7_first_17 : decode cX7_first 17 = .ok (.invokevirtual 158, 3) := by decide +kernel
theorem dX7_first_20 : decode cX7_first 20 = .ok (.iconst 0, 1) := by decide +kernel
theorem dX7_first_21 : decode cX7_first 21 = .ok (.istore_n 2, 1) := by decide +kernel
theorem dX7_first_22 : decode cX7_first 22 = .ok (.iload_n 2, 1) := by decide +kernel
theorem dX7_first_23 : decode cX7_first 23 = .ok (.bipush 50, 2) := by decide +kernel
theorem dX7_first_25 : decode cX7_first 25 = .ok (.if_icmp .gt 53, 3) := by decide +kernel
theorem dX7_first_28 : decode cX7_first 28 = .ok (.aload_n 0, 1) := by decide +kernel
theorem dX7_first_29 : decode cX7_first 29 = .ok (.getfield 40, 3) := by decide +kernel
theorem dX7_first_32 : decode cX7_first 32 = .ok (.getfield 166, 3) := by decide +kernel
theorem dX7_first_35 : decode cX7_first 35 = .ok (.aload_n 0, 1) := by decide +kernel
theorem dX7_first_36 : decode cX7_first 36 = .ok (.getfield 51, 3) := by decide +kernel
theorem dX7_first_39 : decode cX7_first 39 = .ok (.invokevirtual 148, 3) := by decide +kernel
theorem dX7_first_42 : decode cX7_first 42 = .ok (.istore_n 3, 1) := by decide +kernel
theorem dX7_first_43 : decode cX7_first 43 = .ok (.iload_n 3, 1) := by decide +kernel
theorem dX7_first_44 : decode cX7_first 44 = .ok (.ifCond .eq 16, 3) := by decide +kernel
theorem dX7_first_47 : decode cX7_first 47 = .ok (.iload_n 1, 1) := by decide +kernel
theorem dX7_first_48 : decode cX7_first 48 = .ok (.ifCond .ne 7, 3) := by decide +kernel
theorem dX7_first_51 : decode cX7_first 51 = .ok (.iload_n 2, 1) := by decide +kernel
theorem dX7_first_52 : decode cX7_first 52 = .ok (.goto 7, 3) := by decide +kernel
theorem dX7_first_55 : decode cX7_first 55 = .ok (.iload_n 3, 1) := by decide +kernel
theorem dX7_first_56 : decode cX7_first 56 = .ok (.invokestatic 169, 3) := by decide +kernel
theorem dX7_first_59 : decode cX7_first 59 = .ok (.ireturn, 1) := by decide +kernel
theorem dX7_first_60 : decode cX7_first 60 = .ok (.aload_n 0, 1) := by decide +kernel
theorem dX7_first_61 : decode cX7_first 61 = .ok (.getfield 40, 3) := by decide +kernel
theorem dX7_first_64 : decode cX7_first 64 = .ok (.aload_n 0, 1) := by decide +kernel
theorem dX7_first_65 : decode cX7_first 65 = .ok (.getfield 51, 3) := by decide +kernel
theorem dX7_first_68 : decode cX7_first 68 = .ok (.iconst 1, 1) := by decide +kernel
theorem dX7_first_69 : decode cX7_first 69 = .ok (.invokevirtual 162, 3) := by decide +kernel
theorem dX7_first_72 : decode cX7_first 72 = .ok (.iinc 2 1, 3) := by decide +kernel
theorem dX7_first_75 : decode cX7_first 75 = .ok (.goto (-53), 3) := by decide +kernel
theorem dX7_first_78 : decode cX7_first 78 = .ok (.bipush (-9), 2) := by decide +kernel
theorem dX7_first_80 : decode cX7_first 80 = .ok (.ireturn, 1) := by decide +kernel
set_option maxRecDepth 20000 in
theorem ggX7_rest_X0_setOut : GoodIn wsX7_rest wsX0_setOut := goodIn_r _ [8, 9, 10, 11, 12, 13, 14, 15, 16, 17, 18, 19, 59, 60, 61, 62, 63, 64, 65, 66, 67, 68, 69] (by decide +kernel) (by decide +kernel)
set_option maxRecDepth 20000 in
theorem gX7_rest_X0_setOut : GoodIn wsX7_rest (wsV RX7 158 RX0 yX0_setOut wsX0_setOut) := goodIn_app (goodIn_of _ (by decide +kernel)) ggX7_rest_X0_setOut
set_option maxRecDepth 20000 in
theorem ggX7_rest_X0_hoursToRest : GoodIn wsX7_rest wsX0_hoursToRest := goodIn_r _ [23, 24, 25, 9, 26, 27, 28, 29, 7, 30, 31, 32, 33, 13, 34, 15, 35, 36, 19, 37, 38, 39, 18, 40, 41, 42, 43, 44, 45, 46, 16, 47, 48, 17, 70, 71, 72, 73, 74, 75, 76, 77, 78, 59, 60, 61, 62, 63, 64, 65, 66, 67, 68, 69] (by decide +kernel) (by decide +kernel)
set_option maxRecDepth 20000 in
theorem gX7_rest_X0_hoursToRest : GoodIn wsX7_rest (wsV RX7 172 RX0 yX0_hoursToRest wsX0_hoursToRest) := goodIn_app (goodIn_of _ (by decide +kernel)) ggX7_rest_X0_hoursToRest
theorem dX7_rest_0 : decode cX7_rest 0 = .ok (.aload_n 0, 1) := by decide +kernel
theorem dX7_rest_1 : decode cX7_rest 1 = .ok (.getfield 40, 3) := by decide +kernel
theorem dX7_rest_4 : decode cX7_rest 4 = .ok (.aload_n 0, 1) := by decide +kernel
theorem dX7_rest_5 : decode cX7_rest 5 = .ok (.getfield 26, 3) := by decide +kernel
theorem dX7_rest_8 : decode cX7_rest 8 = .ok (.invokevirtual 158, 3) := by decide +kernel
theorem dX7_rest_11 : decode cX7_rest 11 = .ok (.aload_n 0, 1) := by decide +kernel
theorem dX7_rest_12 : decode cX7_rest 12 = .ok (.getfield 40, 3) := by decide +kernel
theorem dX7_rest_15 : decode cX7_rest 15 = .ok (.aload_n 0, 1) := by decide +kernel
theorem dX7_rest_16 : decode cX7_rest 16 = .ok (.getfield 51, 3) := by decide +kernel
theorem dX7_rest_19 : decode cX7_rest 19 = .ok (.invokevirtual 172, 3) := by decide +kernel
theorem dX7_rest_22 : decode cX7_rest 22 = .ok (.ireturn, 1) := by decide +kernel
set_option maxRecDepth 20000 in
theorem ggX7_coolest_X7_isWithin : GoodIn wsX7_coolest wsX7_isWithin := goodIn_r _ [8] (by decide +kernel) (by decide +kernel)
set_option maxRecDepth 20000 in
theorem gX7_coolest_X7_isWithin : GoodIn wsX7_coolest (va_wsS RX7 154 yX7_isWithin wsX7_isWithin) := goodIn_app (goodIn_of _ (by decide +kernel)) ggX7_coolest_X7_isWithin
set_option maxRecDepth 20000 in
theorem ggX7_coolest_X7_isBit : GoodIn wsX7_coolest wsX7_isBit := goodIn_r _ [11] (by decide +kernel) (by decide +kernel)
set_option maxRecDepth 20000 in
theorem gX7_coolest_X7_isBit : GoodIn wsX7_coolest (va_wsS RX7 123 yX7_isBit wsX7_isBit) := goodIn_app (goodIn_of _ (by decide +kernel)) ggX7_coolest_X7_isBit
set_option maxRecDepth 20000 in
theorem ggX7_coolest_X0_warmestIfShut : GoodIn wsX7_coolest wsX0_warmestIfShut := goodIn_r _ [16, 17, 18, 19, 20, 21, 22, 15, 23, 24, 25, 26, 27, 28, 29, 30, 31, 32, 33, 34, 35, 36, 37, 38, 39, 40, 41, 42, 43, 44, 45, 46, 47, 7, 48, 49, 50, 51, 52, 53, 54, 55, 56, 57, 58, 59, 60, 61, 62, 82, 83, 84, 85, 86, 87, 88, 89, 90, 91, 92, 73, 74, 75, 76, 77, 78, 79, 80, 81] (by decide +kernel) (by decide +kernel)
set_option maxRecDepth 20000 in
theorem gX7_coolest_X0_warmestIfShut : GoodIn wsX7_coolest (wsV RX7 175 RX0 yX0_warmestIfShut wsX0_warmestIfShut) := goodIn_app (goodIn_of _ (by decide +kernel)) ggX7_coolest_X0_warmestIfShut
theorem dX7_coolest_0 : decode cX7_coolest 0 = .ok (.iload_n 1, 1) := by decide +kernel
theorem dX7_coolest_1 : decode cX7_coolest 1 = .ok (.bipush 20, 2) := by decide +kernel
theorem dX7_coolest_3 : decode cX7_coolest 3 = .ok (.invokestatic 154, 3) := by decide +kernel
theorem dX7_coolest_6 : decode cX7_coolest 6 = .ok (.ifCond .eq 10, 3) := by decide +kernel
theorem dX7_coolest_9 : decode cX7_coolest 9 = .ok (.iload_n 2, 1) := by decide +kernel
theorem dX7_coolest_10 : decode cX7_coolest 10 = .ok (.invokestatic 123, 3) := by decide +kernel
theorem dX7_coolest_13 : decode cX7_coolest 13 = .ok (.ifCond .ne 5, 3) := by decide +kernel
theorem dX7_coolest_16 : decode cX7_coolest 16 = .ok (.iconst (-1), 1) := by decide +kernel
theorem dX7_coolest_17 : decode cX7_coolest 17 = .ok (.ireturn, 1) := by decide +kernel
theorem dX7_coolest_18 : decode cX7_coolest 18 = .ok (.aload_n 0, 1) := by decide +kernel
theorem dX7_coolest_19 : decode cX7_coolest 19 = .ok (.getfield 51, 3) := by decide +kernel
theorem dX7_coolest_22 : decode cX7_coolest 22 = .ok (.getfield 141, 3) := by decide +kernel
theorem dX7_coolest_25 : decode cX7_coolest 25 = .ok (.ifCond .ne 6, 3) := by decide +kernel
theorem dX7_coolest_28 : decode cX7_coolest 28 = .ok (.bipush (-9), 2) := by decide +kernel
theorem dX7_coolest_30 : decode cX7_coolest 30 = .ok (.ireturn, 1) := by decide +kernel
theorem dX7_coolest_31 : decode cX7_coolest 31 = .ok (.iconst 0, 1) := by decide +kernel
theorem dX7_coolest_32 : decode cX7_coolest 32 = .ok (.istore_n 3, 1) := by decide +kernel
theorem dX7_coolest_33 : decode cX7_coolest 33 = .ok (.bipush (-9), 2) := by decide +kernel
theorem dX7_coolest_35 : decode cX7_coolest 35 = .ok (.istore 4, 2) := by decide +kernel
theorem dX7_coolest_37 : decode cX7_coolest 37 = .ok (.iconst 0, 1) := by decide +kernel
theorem dX7_coolest_38 : decode cX7_coolest 38 = .ok (.istore 5, 2) := by decide +kernel
theorem dX7_coolest_40 : decode cX7_coolest 40 = .ok (.iload 5, 2) := by decide +kernel
theorem dX7_coolest_42 : decode cX7_coolest 42 = .ok (.iconst 1, 1) := by decide +kernel
theorem dX7_coolest_43 : decode cX7_coolest 43 = .ok (.aload_n 0, 1) := by decide +kernel
theorem dX7_coolest_44 : decode cX7_coolest 44 = .ok (.getfield 51, 3) := by decide +kernel
theorem dX7_coolest_47 : decode cX7_coolest 47 = .ok (.getfield 141, 3) := by decide +kernel
theorem dX7_coolest_50 : decode cX7_coolest 50 = .ok (.ishl, 1) := by decide +kernel
theorem dX7_coolest_51 : decode cX7_coolest 51 = .ok (.if_icmp .ge 49, 3) := by decide +kernel
theorem dX7_coolest_54 : decode cX7_coolest 54 = .ok (.aload_n 0, 1) := by decide +kernel
theorem dX7_coolest_55 : decode cX7_coolest 55 = .ok (.getfield 40, 3) := by decide +kernel
theorem dX7_coolest_58 : decode cX7_coolest 58 = .ok (.aload_n 0, 1) := by decide +kernel
theorem dX7_coolest_59 : decode cX7_coolest 59 = .ok (.getfield 26, 3) := by decide +kernel
theorem dX7_coolest_62 : decode cX7_coolest 62 = .ok (.aload_n 0, 1) := by decide +kernel
theorem dX7_coolest_63 : decode cX7_coolest 63 = .ok (.getfield 51, 3) := by decide +kernel
theorem dX7_coolest_66 : decode cX7_coolest 66 = .ok (.iload 5, 2) := by decide +kernel
theorem dX7_coolest_68 : decode cX7_coolest 68 = .ok (.iload_n 1, 1) := by decide +kernel
theorem dX7_coolest_69 : decode cX7_coolest 69 = .ok (.invokevirtual 175, 3) := by decide +kernel
theorem dX7_coolest_72 : decode cX7_coolest 72 = .ok (.istore 6, 2) := by decide +kernel
theorem dX7_coolest_74 : decode cX7_coolest 74 = .ok (.iload 4, 2) := by decide +kernel
theorem dX7_coolest_76 : decode cX7_coolest 76 = .ok (.bipush (-9), 2) := by decide +kernel
theorem dX7_coolest_78 : decode cX7_coolest 78 = .ok (.if_icmp .eq 9, 3) := by decide +kernel
theorem dX7_coolest_81 : decode cX7_coolest 81 = .ok (.iload 6, 2) := by decide +kernel
theorem dX7_coolest_83 : decode cX7_coolest 83 = .ok (.iload_n 3, 1) := by decide +kernel
theorem dX7_coolest_84 : decode cX7_coolest 84 = .ok (.if_icmp .ge 10, 3) := by decide +kernel
theorem dX7_coolest_87 : decode cX7_coolest 87 = .ok (.iload 6, 2) := by decide +kernel
theorem dX7_coolest_89 : decode cX7_coolest 89 = .ok (.istore_n 3, 1) := by decide +kernel
theorem dX7_coolest_90 : decode cX7_coolest 90 = .ok (.iload 5, 2) := by decide +kernel
theorem dX7_coolest_92 : decode cX7_coolest 92 = .ok (.istore 4, 2) := by decide +kernel
theorem dX7_coolest_94 : decode cX7_coolest 94 = .ok (.iinc 5 1, 3) := by decide +kernel
theorem dX7_coolest_97 : decode cX7_coolest 97 = .ok (.goto (-57), 3) := by decide +kernel
theorem dX7_coolest_100 : decode cX7_coolest 100 = .ok (.iload_n 2, 1) := by decide +kernel
theorem dX7_coolest_101 : decode cX7_coolest 101 = .ok (.ifCond .ne 7, 3) := by decide +kernel
theorem dX7_coolest_104 : decode cX7_coolest 104 = .ok (.iload_n 3, 1) := by decide +kernel
theorem dX7_coolest_105 : decode cX7_coolest 105 = .ok (.goto 5, 3) := by decide +kernel
theorem dX7_coolest_108 : decode cX7_coolest 108 = .ok (.iload 4, 2) := by decide +kernel
theorem dX7_coolest_110 : decode cX7_coolest 110 = .ok (.ireturn, 1) := by decide +kernel
set_option maxRecDepth 20000 in
theorem ggX7_busy_X7_isWall : GoodIn wsX7_busy wsX7_isWall := goodIn_r _ [8, 3, 9, 83, 84, 85, 86, 87, 88, 89, 90, 91, 92, 96, 97, 98, 99, 100, 101, 102, 103, 104] (by decide +kernel) (by decide +kernel)
set_option maxRecDepth 20000 in
theorem gX7_busy_X7_isWall : GoodIn wsX7_busy (wsV RX7 84 RX7 yX7_isWall wsX7_isWall) := goodIn_app (goodIn_of _ (by decide +kernel)) ggX7_busy_X7_isWall
set_option maxRecDepth 20000 in
theorem ggX7_busy_X7_isBit : GoodIn wsX7_busy wsX7_isBit := goodIn_r _ [12] (by decide +kernel) (by decide +kernel)
set_option maxRecDepth 20000 in
theorem gX7_busy_X7_isBit : GoodIn wsX7_busy (va_wsS RX7 123 yX7_isBit wsX7_isBit) := goodIn_app (goodIn_of _ (by decide +kernel)) ggX7_busy_X7_isBit
set_option maxRecDepth 20000 in
theorem ggX7_busy_X6_copy : GoodIn wsX7_busy wsX6_copy := goodIn_r _ [17, 18, 19, 20, 21, 22, 23, 24, 25, 26, 96, 97, 98, 99, 100, 101, 102, 103, 104] (by decide +kernel) (by decide +kernel)
set_option maxRecDepth 20000 in
theorem gX7_busy_X6_copy : GoodIn wsX7_busy (wsV RX7 182 RX6 yX6_copy wsX6_copy) := goodIn_app (goodIn_of _ (by decide +kernel)) ggX7_busy_X6_copy
set_option maxRecDepth 20000 in
theorem ggX7_busy_X7_busyHours : GoodIn wsX7_busy wsX7_busyHours := goodIn_r _ [30, 1, 2, 31, 32, 33, 34, 35, 36, 37, 38, 39, 40, 41, 42, 43, 44, 45, 46, 47, 48, 49, 50, 51, 52, 53, 54, 55, 56, 57, 58, 59, 60, 61, 62, 63, 64, 65, 66, 67, 68, 69, 70, 7, 71, 72, 73, 74, 75, 76, 77, 78, 79, 80, 81, 82, 83, 84, 85, 86, 87, 88, 89, 90, 91, 92, 93, 94, 95, 96, 97, 98, 99, 100, 101, 102, 103, 104, 105, 106, 107, 108, 109, 110, 111, 112] (by decide +kernel) (by decide +kernel)
set_option maxRecDepth 20000 in
theorem gX7_busy_X7_busyHours : GoodIn wsX7_busy (wsV RX7 185 RX7 yX7_busyHours wsX7_busyHours) := goodIn_app (goodIn_of _ (by decide +kernel)) ggX7_busy_X7_busyHours
theorem dX7_busy_0 : decode cX7_busy 0 = .ok (.aload_n 0, 1) := by decide +kernel
theorem dX7_busy_1 : decode cX7_busy 1 = .ok (.iload_n 1, 1) := by decide +kernel
theorem dX7_busy_2 : decode cX7_busy 2 = .ok (.invokevirtual 84, 3) := by decide +kernel
theorem dX7_busy_5 : decode cX7_busy 5 = .ok (.ifCond .eq 10, 3) := by decide +kernel
theorem dX7_busy_8 : decode cX7_busy 8 = .ok (.iload_n 2, 1) := by decide +kernel
theorem dX7_busy_9 : decode cX7_busy 9 = .ok (.invokestatic 123, 3) := by decide +kernel
theorem dX7_busy_12 : decode cX7_busy 12 = .ok (.ifCond .ne 5, 3) := by decide +kernel
theorem dX7_busy_15 : decode cX7_busy 15 = .ok (.iconst (-1), 1) := by decide +kernel
theorem dX7_busy_16 : decode cX7_busy 16 = .ok (.ireturn, 1) := by decide +kernel
theorem dX7_busy_17 : decode cX7_busy 17 = .ok (.aload_n 0, 1) := by decide +kernel
theorem dX7_busy_18 : decode cX7_busy 18 = .ok (.getfield 40, 3) := by decide +kernel
theorem dX7_busy_21 : decode cX7_busy 21 = .ok (.getfield 179, 3) := by decide +kernel
theorem dX7_busy_24 : decode cX7_busy 24 = .ok (.aload_n 0, 1) := by decide +kernel
theorem dX7_busy_25 : decode cX7_busy 25 = .ok (.getfield 51, 3) := by decide +kernel
theorem dX7_busy_28 : decode cX7_busy 28 = .ok (.invokevirtual 182, 3) := by decide +kernel
theorem dX7_busy_31 : decode cX7_busy 31 = .ok (.bipush 8, 2) := by decide +kernel
theorem dX7_busy_33 : decode cX7_busy 33 = .ok (.istore_n 3, 1) := by decide +kernel
theorem dX7_busy_34 : decode cX7_busy 34 = .ok (.iload_n 3, 1) := by decide +kernel
theorem dX7_busy_35 : decode cX7_busy 35 = .ok (.ifCond .lt 35, 3) := by decide +kernel
theorem dX7_busy_38 : decode cX7_busy 38 = .ok (.aload_n 0, 1) := by decide +kernel
theorem dX7_busy_39 : decode cX7_busy 39 = .ok (.iload_n 1, 1) := by decide +kernel
theorem dX7_busy_40 : decode cX7_busy 40 = .ok (.iload_n 3, 1) := by decide +kernel
theorem dX7_busy_41 : decode cX7_busy 41 = .ok (.invokevirtual 185, 3) := by decide +kernel
theorem dX7_busy_44 : decode cX7_busy 44 = .ok (.istore 4, 2) := by decide +kernel
theorem dX7_busy_46 : decode cX7_busy 46 = .ok (.iload 4, 2) := by decide +kernel
theorem dX7_busy_48 : decode cX7_busy 48 = .ok (.bipush (-9), 2) := by decide +kernel
theorem dX7_busy_50 : decode cX7_busy 50 = .ok (.if_icmp .eq 14, 3) := by decide +kernel
theorem dX7_busy_53 : decode cX7_busy 53 = .ok (.iload_n 2, 1) := by decide +kernel
theorem dX7_busy_54 : decode cX7_busy 54 = .ok (.ifCond .ne 7, 3) := by decide +kernel
theorem dX7_busy_57 : decode cX7_busy 57 = .ok (.iload_n 3, 1) := by decide +kernel
theorem dX7_busy_58 : decode cX7_busy 58 = .ok (.goto 5, 3) := by decide +kernel
theorem dX7_busy_61 : decode cX7_busy 61 = .ok (.iload 4, 2) := by decide +kernel
theorem dX7_busy_63 : decode cX7_busy 63 = .ok (.ireturn, 1) := by decide +kernel
theorem dX7_busy_64 : decode cX7_busy 64 = .ok (.iinc 3 (-1), 3) := by decide +kernel
theorem dX7_busy_67 : decode cX7_busy 67 = .ok (.goto (-33), 3) := by decide +kernel
theorem dX7_busy_70 : decode cX7_busy 70 = .ok (.bipush (-9), 2) := by decide +kernel
theorem dX7_busy_72 : decode cX7_busy 72 = .ok (.ireturn, 1) := by decide +kernel
set_option maxRecDepth 20000 in
theorem ggX7_blanket_X7_isWall : GoodIn wsX7_blanket wsX7_isWall := goodIn_r _ [7, 1, 2, 68, 69, 70, 71, 72, 73, 74, 75, 76, 77, 78, 79, 80, 81, 82, 83, 84, 85, 86] (by decide +kernel) (by decide +kernel)
set_option maxRecDepth 20000 in
theorem gX7_blanket_X7_isWall : GoodIn wsX7_blanket (wsV RX7 84 RX7 yX7_isWall wsX7_isWall) := goodIn_app (goodIn_of _ (by decide +kernel)) ggX7_blanket_X7_isWall
set_option maxRecDepth 20000 in
theorem ggX7_blanket_X7_isWithin : GoodIn wsX7_blanket wsX7_isWithin := goodIn_r _ [10] (by decide +kernel) (by decide +kernel)
set_option maxRecDepth 20000 in
theorem gX7_blanket_X7_isWithin : GoodIn wsX7_blanket (va_wsS RX7 154 yX7_isWithin wsX7_isWithin) := goodIn_app (goodIn_of _ (by decide +kernel)) ggX7_blanket_X7_isWithin
set_option maxRecDepth 20000 in
theorem ggX7_blanket_X7_blanketOf : GoodIn wsX7_blanket wsX7_blanketOf := goodIn_r _ [14, 15, 16, 1, 2, 17, 18, 19, 20, 21, 22, 23, 24, 25, 26, 27, 28, 29, 30, 31, 32, 33, 34, 35, 36, 37, 38, 39, 40, 41, 42, 43, 44, 45, 46, 47, 48, 49, 50, 51, 52, 53, 54, 55, 56, 57, 58, 59, 60, 6, 61, 62, 63, 64, 65, 66, 67, 68, 69, 70, 71, 72, 73, 74, 75, 76, 77, 87, 88, 89, 90, 91, 92, 93, 94, 78, 79, 80, 81, 82, 83, 84, 85, 86, 95, 96, 97] (by decide +kernel) (by decide +kernel)
set_option maxRecDepth 20000 in
theorem gX7_blanket_X7_blanketOf : GoodIn wsX7_blanket (wsV RX7 188 RX7 yX7_blanketOf wsX7_blanketOf) := goodIn_app (goodIn_of _ (by decide +kernel)) ggX7_blanket_X7_blanketOf
theorem dX7_blanket_0 : decode cX7_blanket 0 = .ok (.aload_n 0, 1) := by decide +kernel
theorem dX7_blanket_1 : decode cX7_blanket 1 = .ok (.iload_n 1, 1) := by decide +kernel
theorem dX7_blanket_2 : decode cX7_blanket 2 = .ok (.invokevirtual 84, 3) := by decide +kernel
theorem dX7_blanket_5 : decode cX7_blanket 5 = .ok (.ifCond .eq 22, 3) := by decide +kernel
theorem dX7_blanket_8 : decode cX7_blanket 8 = .ok (.iload_n 2, 1) := by decide +kernel
theorem dX7_blanket_9 : decode cX7_blanket 9 = .ok (.sipush 999, 3) := by decide +kernel
theorem dX7_blanket_12 : decode cX7_blanket 12 = .ok (.invokestatic 154, 3) := by decide +kernel
theorem dX7_blanket_15 : decode cX7_blanket 15 = .ok (.ifCond .eq 12, 3) := by decide +kernel
theorem dX7_blanket_18 : decode cX7_blanket 18 = .ok (.iload_n 3, 1) := by decide +kernel
theorem dX7_blanket_19 : decode cX7_blanket 19 = .ok (.bipush 20, 2) := by decide +kernel
theorem dX7_blanket_21 : decode cX7_blanket 21 = .ok (.invokestatic 154, 3) := by decide +kernel
theorem dX7_blanket_24 : decode cX7_blanket 24 = .ok (.ifCond .ne 5, 3) := by decide +kernel
theorem dX7_blanket_27 : decode cX7_blanket 27 = .ok (.iconst (-1), 1) := by decide +kernel
theorem dX7_blanket_28 : decode cX7_blanket 28 = .ok (.ireturn, 1) := by decide +kernel
theorem dX7_blanket_29 : decode cX7_blanket 29 = .ok (.iconst 0, 1) := by decide +kernel
theorem dX7_blanket_30 : decode cX7_blanket 30 = .ok (.istore 4, 2) := by decide +kernel
theorem dX7_blanket_32 : decode cX7_blanket 32 = .ok (.iload 4, 2) := by decide +kernel
theorem dX7_blanket_34 : decode cX7_blanket 34 = .ok (.aload_n 0, 1) := by decide +kernel
theorem dX7_blanket_35 : decode cX7_blanket 35 = .ok (.getfield 51, 3) := by decide +kernel
theorem dX7_blanket_38 : decode cX7_blanket 38 = .ok (.getfield 141, 3) := by decide +kernel
theorem dX7_blanket_41 : decode cX7_blanket 41 = .ok (.if_icmp .ge 30, 3) := by decide +kernel
theorem dX7_blanket_44 : decode cX7_blanket 44 = .ok (.aload_n 0, 1) := by decide +kernel
theorem dX7_blanket_45 : decode cX7_blanket 45 = .ok (.iload_n 1, 1) := by decide +kernel
theorem dX7_blanket_46 : decode cX7_blanket 46 = .ok (.iload_n 2, 1) := by decide +kernel
theorem dX7_blanket_47 : decode cX7_blanket 47 = .ok (.iload_n 3, 1) := by decide +kernel
theorem dX7_blanket_48 : decode cX7_blanket 48 = .ok (.iload 4, 2) := by decide +kernel
theorem dX7_blanket_50 : decode cX7_blanket 50 = .ok (.invokevirtual 188, 3) := by decide +kernel
theorem dX7_blanket_53 : decode cX7_blanket 53 = .ok (.istore 5, 2) := by decide +kernel
theorem dX7_blanket_55 : decode cX7_blanket 55 = .ok (.iload 5, 2) := by decide +kernel
theorem dX7_blanket_57 : decode cX7_blanket 57 = .ok (.bipush (-9), 2) := by decide +kernel
theorem dX7_blanket_59 : decode cX7_blanket 59 = .ok (.if_icmp .eq 6, 3) := by decide +kernel
theorem dX7_blanket_62 : decode cX7_blanket 62 = .ok (.iload 5, 2) := by decide +kernel
theorem dX7_blanket_64 : decode cX7_blanket 64 = .ok (.ireturn, 1) := by decide +kernel
theorem dX7_blanket_65 : decode cX7_blanket 65 = .ok (.iinc 4 1, 3) := by decide +kernel
theorem dX7_blanket_68 : decode cX7_blanket 68 = .ok (.goto (-36), 3) := by decide +kernel
theorem dX7_blanket_71 : decode cX7_blanket 71 = .ok (.bipush (-9), 2) := by decide +kernel
theorem dX7_blanket_73 : decode cX7_blanket 73 = .ok (.ireturn, 1) := by decide +kernel
set_option maxRecDepth 20000 in
theorem ggX7_harm_X7_isWall : GoodIn wsX7_harm wsX7_isWall := goodIn_r _ [6, 7, 8, 77, 78, 79, 80, 81, 82, 83, 84, 85, 86, 87, 88, 89, 90, 91, 92, 93, 94, 95] (by decide +kernel) (by decide +kernel)
set_option maxRecDepth 20000 in
theorem gX7_harm_X7_isWall : GoodIn wsX7_harm (wsV RX7 84 RX7 yX7_isWall wsX7_isWall) := goodIn_app (goodIn_of _ (by decide +kernel)) ggX7_harm_X7_isWall
set_option maxRecDepth 20000 in
theorem ggX7_harm_X7_leastHarmed : GoodIn wsX7_harm wsX7_leastHarmed := goodIn_r _ [12, 7, 8, 13, 14, 15, 5, 16, 17, 18, 19, 20, 21, 22, 23, 24, 25, 26, 27, 28, 29, 30, 31, 32, 33, 34, 35, 36, 37, 38, 39, 40, 41, 42, 43, 44, 45, 46, 47, 48, 49, 50, 51, 52, 53, 54, 55, 56, 57, 58, 59, 60, 61, 62, 63, 64, 65, 66, 67, 68, 69, 70, 71, 72, 73, 74, 75, 76, 77, 78, 79, 80, 81, 82, 83, 84, 85, 86, 87, 88, 89, 90, 91, 92, 93, 94, 95, 96, 97, 98, 99, 100, 101, 102, 103, 104, 105, 106] (by decide +kernel) (by decide +kernel)
set_option maxRecDepth 20000 in
theorem gX7_harm_X7_leastHarmed : GoodIn wsX7_harm (wsV RX7 193 RX7 yX7_leastHarmed wsX7_leastHarmed) := goodIn_app (goodIn_of _ (by decide +kernel)) ggX7_harm_X7_leastHarmed
set_option maxRecDepth 20000 in
theorem ggX7_harm_X7_harmDone : GoodIn wsX7_harm wsX7_harmDone := goodIn_r _ [16, 17, 18, 7, 19, 20, 8, 21, 22, 23, 24, 25, 26, 27, 28, 29, 30, 31, 32, 33, 34, 35, 36, 37, 38, 39, 40, 41, 42, 43, 44, 45, 46, 47, 48, 49, 50, 51, 52, 53, 54, 55, 56, 57, 58, 59, 60, 61, 62, 63, 64, 65, 5, 66, 67, 68, 69, 70, 71, 72, 73, 74, 75, 76, 77, 78, 79, 80, 81, 82, 83, 84, 85, 86, 96, 97, 98, 87, 88, 89, 90, 91, 92, 93, 94, 95, 99, 100, 101, 102, 103, 104, 105, 106] (by decide +kernel) (by decide +kernel)
set_option maxRecDepth 20000 in
theorem gX7_harm_X7_harmDone : GoodIn wsX7_harm (wsV RX7 196 RX7 yX7_harmDone wsX7_harmDone) := goodIn_app (goodIn_of _ (by decide +kernel)) ggX7_harm_X7_harmDone
theorem dX7_harm_0 : decode cX7_harm 0 = .ok (.iload_n 1, 1) := by decide +kernel
theorem dX7_harm_1 : decode cX7_harm 1 = .ok (.iconst (-1), 1) := by decide +kernel
theorem dX7_harm_2 : decode cX7_harm 2 = .ok (.if_icmp .eq 11, 3) := by decide +kernel
theorem dX7_harm_5 : decode cX7_harm 5 = .ok (.aload_n 0, 1) := by decide +kernel
theorem dX7_harm_6 : decode cX7_harm 6 = .ok (.iload_n 1, 1) := by decide +kernel
theorem dX7_harm_7 : decode cX7_harm 7 = .ok (.invokevirtual 84, 3) := by decide +kernel
theorem dX7_harm_10 : decode cX7_harm 10 = .ok (.ifCond .eq 14, 3) := by decide +kernel
theorem dX7_harm_13 : decode cX7_harm 13 = .ok (.iload_n 2, 1) := by decide +kernel
theorem dX7_harm_14 : decode cX7_harm 14 = .ok (.iconst 1, 1) := by decide +kernel
theorem dX7_harm_15 : decode cX7_harm 15 = .ok (.if_icmp .lt 9, 3) := by decide +kernel
theorem dX7_harm_18 : decode cX7_harm 18 = .ok (.iload_n 2, 1) := by decide +kernel
theorem dX7_harm_19 : decode cX7_harm 19 = .ok (.bipush 50, 2) := by decide +kernel
theorem dX7_harm_21 : decode cX7_harm 21 = .ok (.if_icmp .le 6, 3) := by decide +kernel
theorem dX7_harm_24 : decode cX7_harm 24 = .ok (.ldc 192, 2) := by decide +kernel
theorem dX7_harm_26 : decode cX7_harm 26 = .ok (.ireturn, 1) := by decide +kernel
theorem dX7_harm_27 : decode cX7_harm 27 = .ok (.iload_n 1, 1) := by decide +kernel
theorem dX7_harm_28 : decode cX7_harm 28 = .ok (.iconst (-1), 1) := by decide +kernel
theorem dX7_harm_29 : decode cX7_harm 29 = .ok (.if_icmp .ne 11, 3) := by decide +kernel
theorem dX7_harm_32 : decode cX7_harm 32 = .ok (.aload_n 0, 1) := by decide +kernel
theorem dX7_harm_33 : decode cX7_harm 33 = .ok (.iload_n 2, 1) := by decide +kernel
theorem dX7_harm_34 : decode cX7_harm 34 = .ok (.invokevirtual 193, 3) := by decide +kernel
theorem dX7_harm_37 : decode cX7_harm 37 = .ok (.goto 9, 3) := by decide +kernel
theorem dX7_harm_40 : decode cX7_harm 40 = .ok (.aload_n 0, 1) := by decide +kernel
theorem dX7_harm_41 : decode cX7_harm 41 = .ok (.iload_n 1, 1) := by decide +kernel
theorem dX7_harm_42 : decode cX7_harm 42 = .ok (.iload_n 2, 1) := by decide +kernel
theorem dX7_harm_43 : decode cX7_harm 43 = .ok (.invokevirtual 196, 3) := by decide +kernel
theorem dX7_harm_46 : decode cX7_harm 46 = .ok (.ireturn, 1) := by decide +kernel
set_option maxRecDepth 20000 in
theorem ggX7_saw_X7_isWithin : GoodIn wsX7_saw wsX7_isWithin := goodIn_r _ [6] (by decide +kernel) (by decide +kernel)
set_option maxRecDepth 20000 in
theorem gX7_saw_X7_isWithin : GoodIn wsX7_saw (va_wsS RX7 154 yX7_isWithin wsX7_isWithin) := goodIn_app (goodIn_of _ (by decide +kernel)) ggX7_saw_X7_isWithin
set_option maxRecDepth 20000 in
theorem ggX7_saw_X7_isWall : GoodIn wsX7_saw wsX7_isWall := goodIn_r _ [10, 11, 12, 22, 23, 24, 25, 26, 27, 28, 29, 30, 31, 36, 37, 38, 39, 40, 41, 42, 43, 44] (by decide +kernel) (by decide +kernel)
set_option maxRecDepth 20000 in
theorem gX7_saw_X7_isWall : GoodIn wsX7_saw (wsV RX7 84 RX7 yX7_isWall wsX7_isWall) := goodIn_app (goodIn_of _ (by decide +kernel)) ggX7_saw_X7_isWall
set_option maxRecDepth 20000 in
theorem ggX7_saw_X3_add : GoodIn wsX7_saw wsX3_add := goodIn_r _ [17, 18, 19, 20, 21, 32, 33, 34, 35] (by decide +kernel) (by decide +kernel)
set_option maxRecDepth 20000 in
theorem gX7_saw_X3_add : GoodIn wsX7_saw (wsV RX7 199 RX3 yX3_add wsX3_add) := goodIn_app (goodIn_of _ (by decide +kernel)) ggX7_saw_X3_add
theorem dX7_saw_0 : decode cX7_saw 0 = .ok (.iload_n 1, 1) := by decide +kernel
theorem dX7_saw_1 : decode cX7_saw 1 = .ok (.bipush 20, 2) := by decide +kernel
theorem dX7_saw_3 : decode cX7_saw 3 = .ok (.invokestatic 154, 3) := by decide +kernel
theorem dX7_saw_6 : decode cX7_saw 6 = .ok (.ifCond .eq 21, 3) := by decide +kernel
theorem dX7_saw_9 : decode cX7_saw 9 = .ok (.aload_n 0, 1) := by decide +kernel
theorem dX7_saw_10 : decode cX7_saw 10 = .ok (.iload_n 2, 1) := by decide +kernel
theorem dX7_saw_11 : decode cX7_saw 11 = .ok (.invokevirtual 84, 3) := by decide +kernel
theorem dX7_saw_14 : decode cX7_saw 14 = .ok (.ifCond .eq 13, 3) := by decide +kernel
theorem dX7_saw_17 : decode cX7_saw 17 = .ok (.iload_n 3, 1) := by decide +kernel
theorem dX7_saw_18 : decode cX7_saw 18 = .ok (.sipush 9999, 3) := by decide +kernel
theorem dX7_saw_21 : decode cX7_saw 21 = .ok (.invokestatic 154, 3) := by decide +kernel
theorem dX7_saw_24 : decode cX7_saw 24 = .ok (.ifCond .ne 5, 3) := by decide +kernel
theorem dX7_saw_27 : decode cX7_saw 27 = .ok (.iconst (-1), 1) := by decide +kernel
theorem dX7_saw_28 : decode cX7_saw 28 = .ok (.ireturn, 1) := by decide +kernel
theorem dX7_saw_29 : decode cX7_saw 29 = .ok (.aload_n 0, 1) := by decide +kernel
theorem dX7_saw_30 : decode cX7_saw 30 = .ok (.getfield 33, 3) := by decide +kernel
theorem dX7_saw_33 : decode cX7_saw 33 = .ok (.getfield 78, 3) := by decide +kernel
theorem dX7_saw_36 : decode cX7_saw 36 = .ok (.bipush 8, 2) := by decide +kernel
theorem dX7_saw_38 : decode cX7_saw 38 = .ok (.if_icmp .lt 6, 3) := by decide +kernel
theorem dX7_saw_41 : decode cX7_saw 41 = .ok (.bipush (-3), 2) := by decide +kernel
theorem dX7_saw_43 : decode cX7_saw 43 = .ok (.ireturn, 1) := by decide +kernel
theorem dX7_saw_44 : decode cX7_saw 44 = .ok (.aload_n 0, 1) := by decide +kernel
theorem dX7_saw_45 : decode cX7_saw 45 = .ok (.getfield 33, 3) := by decide +kernel
theorem dX7_saw_48 : decode cX7_saw 48 = .ok (.iload_n 1, 1) := by decide +kernel
theorem dX7_saw_49 : decode cX7_saw 49 = .ok (.iload_n 2, 1) := by decide +kernel
theorem dX7_saw_50 : decode cX7_saw 50 = .ok (.iload_n 3, 1) := by decide +kernel
theorem dX7_saw_51 : decode cX7_saw 51 = .ok (.invokevirtual 199, 3) := by decide +kernel
theorem dX7_saw_54 : decode cX7_saw 54 = .ok (.aload_n 0, 1) := by decide +kernel
theorem dX7_saw_55 : decode cX7_saw 55 = .ok (.getfield 33, 3) := by decide +kernel
theorem dX7_saw_58 : decode cX7_saw 58 = .ok (.getfield 78, 3) := by decide +kernel
theorem dX7_saw_61 : decode cX7_saw 61 = .ok (.ireturn, 1) := by decide +kernel
theorem dX7_forget_0 : decode cX7_forget 0 = .ok (.aload_n 0, 1) := by decide +kernel
theorem dX7_forget_1 : decode cX7_forget 1 = .ok (.getfield 33, 3) := by decide +kernel
theorem dX7_forget_4 : decode cX7_forget 4 = .ok (.getfield 78, 3) := by decide +kernel
theorem dX7_forget_7 : decode cX7_forget 7 = .ok (.istore_n 1, 1) := by decide +kernel
theorem dX7_forget_8 : decode cX7_forget 8 = .ok (.aload_n 0, 1) := by decide +kernel
theorem dX7_forget_9 : decode cX7_forget 9 = .ok (.getfield 33, 3) := by decide +kernel
theorem dX7_forget_12 : decode cX7_forget 12 = .ok (.iconst 0, 1) := by decide +kernel
theorem dX7_forget_13 : decode cX7_forget 13 = .ok (.putfield 78, 3) := by decide +kernel
theorem dX7_forget_16 : decode cX7_forget 16 = .ok (.iload_n 1, 1) := by decide +kernel
theorem dX7_forget_17 : decode cX7_forget 17 = .ok (.ireturn, 1) := by decide +kernel
set_option maxRecDepth 20000 in
theorem ggX7_holes_X7_isWall : GoodIn wsX7_holes wsX7_isWall := goodIn_r _ [8, 3, 9, 88, 89, 90, 91, 92, 93, 94, 95, 96, 97, 101, 102, 103, 104, 105, 106, 107, 108, 109] (by decide +kernel) (by decide +kernel)
set_option maxRecDepth 20000 in
theorem gX7_holes_X7_isWall : GoodIn wsX7_holes (wsV RX7 84 RX7 yX7_isWall wsX7_isWall) := goodIn_app (goodIn_of _ (by decide +kernel)) ggX7_holes_X7_isWall
set_option maxRecDepth 20000 in
theorem ggX7_holes_X6_copy : GoodIn wsX7_holes wsX6_copy := goodIn_r _ [14, 15, 16, 17, 18, 19, 20, 21, 22, 23, 101, 102, 103, 104, 105, 106, 107, 108, 109] (by decide +kernel) (by decide +kernel)
set_option maxRecDepth 20000 in
theorem gX7_holes_X6_copy : GoodIn wsX7_holes (wsV RX7 182 RX6 yX6_copy wsX6_copy) := goodIn_app (goodIn_of _ (by decide +kernel)) ggX7_holes_X6_copy
set_option maxRecDepth 20000 in
theorem ggX7_holes_X7_holesOfAll : GoodIn wsX7_holes wsX7_holesOfAll := goodIn_r _ [27, 1, 28, 3, 9, 29, 30, 31, 32, 33, 34, 35, 36, 37, 38, 39, 40, 41, 42, 43, 44, 45, 46, 47, 48, 49, 50, 51, 52, 53, 54, 55, 56, 57, 58, 59, 60, 61, 62, 63, 64, 65, 66, 67, 68, 69, 70, 71, 72, 73, 74, 75, 7, 76, 77, 78, 79, 80, 81, 82, 83, 84, 85, 86, 2, 87, 88, 89, 90, 91, 92, 93, 94, 95, 96, 97, 101, 102, 103, 104, 105, 106, 107, 108, 109, 98, 99, 100, 110, 111, 112, 113, 114, 115, 116, 117, 118, 119, 120, 121] (by decide +kernel) (by decide +kernel)
set_option maxRecDepth 20000 in
theorem gX7_holes_X7_holesOfAll : GoodIn wsX7_holes (wsV RX7 203 RX7 yX7_holesOfAll wsX7_holesOfAll) := goodIn_app (goodIn_of _ (by decide +kernel)) ggX7_holes_X7_holesOfAll
set_option maxRecDepth 20000 in
theorem ggX7_holes_X7_holeRate : GoodIn wsX7_holes wsX7_holeRate := goodIn_r _ [86, 1, 2, 87, 3, 28, 29, 30, 31, 32, 33, 34, 35, 36, 37, 38, 39, 40, 41, 42, 43, 44, 45, 46, 47, 48, 49, 50, 51, 52, 53, 54, 55, 56, 57, 58, 59, 60, 61, 62, 63, 64, 65, 66, 67, 68, 69, 70, 71, 72, 73, 74, 75, 7, 76, 77, 78, 79, 80, 81, 82, 88, 89, 90, 91, 92, 93, 94, 95, 96, 97, 98, 99, 100, 101, 102, 103, 104, 105, 106, 107, 108, 109, 110, 111, 112, 113, 114, 115, 116, 117, 118, 119, 120, 121] (by decide +kernel) (by decide +kernel)
set_option maxRecDepth 20000 in
theorem gX7_holes_X7_holeRate : GoodIn wsX7_holes (wsV RX7 207 RX7 yX7_holeRate wsX7_holeRate) := goodIn_app (goodIn_of _ (by decide +kernel)) ggX7_holes_X7_holeRate
theorem dX7_holes_0 : decode cX7_holes 0 = .ok (.iload_n 1, 1) := by decide +kernel
theorem dX7_holes_1 : decode cX7_holes 1 = .ok (.iconst (-1), 1) := by decide +kernel
theorem dX7_holes_2 : decode cX7_holes 2 = .ok (.if_icmp .eq 13, 3) := by decide +kernel
theorem dX7_holes_5 : decode cX7_holes 5 = .ok (.aload_n 0, 1) := by decide +kernel
theorem dX7_holes_6 : decode cX7_holes 6 = .ok (.iload_n 1, 1) := by decide +kernel
theorem dX7_holes_7 : decode cX7_holes 7 = .ok (.invokevirtual 84, 3) := by decide +kernel
theorem dX7_holes_10 : decode cX7_holes 10 = .ok (.ifCond .ne 5, 3) := by decide +kernel
theorem dX7_holes_13 : decode cX7_holes 13 = .ok (.iconst (-1), 1) := by decide +kernel
theorem dX7_holes_14 : decode cX7_holes 14 = .ok (.ireturn, 1) := by decide +kernel
theorem dX7_holes_15 : decode cX7_holes 15 = .ok (.aload_n 0, 1) := by decide +kernel
theorem dX7_holes_16 : decode cX7_holes 16 = .ok (.getfield 40, 3) := by decide +kernel
theorem dX7_holes_19 : decode cX7_holes 19 = .ok (.getfield 179, 3) := by decide +kernel
theorem dX7_holes_22 : decode cX7_holes 22 = .ok (.aload_n 0, 1) := by decide +kernel
theorem dX7_holes_23 : decode cX7_holes 23 = .ok (.getfield 51, 3) := by decide +kernel
theorem dX7_holes_26 : decode cX7_holes 26 = .ok (.invokevirtual 182, 3) := by decide +kernel
theorem dX7_holes_29 : decode cX7_holes 29 = .ok (.iload_n 1, 1) := by decide +kernel
theorem dX7_holes_30 : decode cX7_holes 30 = .ok (.iconst (-1), 1) := by decide +kernel
theorem dX7_holes_31 : decode cX7_holes 31 = .ok (.if_icmp .ne 10, 3) := by decide +kernel
theorem dX7_holes_34 : decode cX7_holes 34 = .ok (.aload_n 0, 1) := by decide +kernel
theorem dX7_holes_35 : decode cX7_holes 35 = .ok (.invokevirtual 203, 3) := by decide +kernel
theorem dX7_holes_38 : decode cX7_holes 38 = .ok (.goto 8, 3) := by decide +kernel
theorem dX7_holes_41 : decode cX7_holes 41 = .ok (.aload_n 0, 1) := by decide +kernel
theorem dX7_holes_42 : decode cX7_holes 42 = .ok (.iload_n 1, 1) := by decide +kernel
theorem dX7_holes_43 : decode cX7_holes 43 = .ok (.invokevirtual 207, 3) := by decide +kernel
theorem dX7_holes_46 : decode cX7_holes 46 = .ok (.ireturn, 1) := by decide +kernel
set_option maxRecDepth 20000 in
theorem ggX7_mark_X7_isWall : GoodIn wsX7_mark wsX7_isWall := goodIn_r _ [6, 7, 8, 49, 50, 51, 52, 53, 54, 55, 56, 57, 58, 59, 60, 61, 62, 63, 64, 65, 66, 67] (by decide +kernel) (by decide +kernel)
set_option maxRecDepth 20000 in
theorem gX7_mark_X7_isWall : GoodIn wsX7_mark (wsV RX7 84 RX7 yX7_isWall wsX7_isWall) := goodIn_app (goodIn_of _ (by decide +kernel)) ggX7_mark_X7_isWall
set_option maxRecDepth 20000 in
theorem ggX7_mark_X7_markOfWall : GoodIn wsX7_mark wsX7_markOfWall := goodIn_r _ [12, 13, 14, 15, 49, 50, 51, 52, 53, 54, 55, 56, 57, 58, 68, 69, 70, 71, 72, 73, 74, 75] (by decide +kernel) (by decide +kernel)
set_option maxRecDepth 20000 in
theorem gX7_mark_X7_markOfWall : GoodIn wsX7_mark (wsV RX7 210 RX7 yX7_markOfWall wsX7_markOfWall) := goodIn_app (goodIn_of _ (by decide +kernel)) ggX7_mark_X7_markOfWall
set_option maxRecDepth 20000 in
theorem ggX7_mark_X7_markOfFin : GoodIn wsX7_mark wsX7_markOfFin := goodIn_r _ [19, 13, 20, 7, 21, 9, 10, 11, 5, 12, 14, 15, 49, 50, 51, 52, 53, 54, 55, 56, 57, 58, 59, 60, 61, 62, 63, 64, 65, 66, 67, 68, 69, 70, 71, 72, 73, 74, 75] (by decide +kernel) (by decide +kernel)
set_option maxRecDepth 20000 in
theorem gX7_mark_X7_markOfFin : GoodIn wsX7_mark (wsV RX7 213 RX7 yX7_markOfFin wsX7_markOfFin) := goodIn_app (goodIn_of _ (by decide +kernel)) ggX7_mark_X7_markOfFin
set_option maxRecDepth 20000 in
theorem ggX7_mark_X7_markOfBrick : GoodIn wsX7_mark wsX7_markOfBrick := goodIn_r _ [25, 13, 26, 7, 9, 10, 11, 5, 12, 14, 15, 27, 28, 29, 30, 31, 32, 49, 50, 51, 52, 53, 54, 55, 56, 57, 58, 68, 69, 70, 71, 72, 73, 74, 75, 59, 60, 61, 62, 63, 64, 65, 66, 67] (by decide +kernel) (by decide +kernel)
set_option maxRecDepth 20000 in
theorem gX7_mark_X7_markOfBrick : GoodIn wsX7_mark (wsV RX7 216 RX7 yX7_markOfBrick wsX7_markOfBrick) := goodIn_app (goodIn_of _ (by decide +kernel)) ggX7_mark_X7_markOfBrick
set_option maxRecDepth 20000 in
theorem ggX7_mark_X7_markOfFurnace : GoodIn wsX7_mark wsX7_markOfFurnace := goodIn_r _ [36, 13, 37, 16, 17, 18, 5, 19, 20, 7, 21, 9, 10, 11, 12, 14, 15, 49, 50, 51, 52, 53, 54, 55, 56, 57, 58, 59, 60, 61, 62, 63, 64, 65, 66, 67, 68, 69, 70, 71, 72, 73, 74, 75] (by decide +kernel) (by decide +kernel)
set_option maxRecDepth 20000 in
theorem gX7_mark_X7_markOfFurnace : GoodIn wsX7_mark (wsV RX7 219 RX7 yX7_markOfFurnace wsX7_markOfFurnace) := goodIn_app (goodIn_of _ (by decide +kernel)) ggX7_mark_X7_markOfFurnace
set_option maxRecDepth 20000 in
theorem ggX7_mark_X7_markOfWindow : GoodIn wsX7_mark wsX7_markOfWindow := goodIn_r _ [41, 13, 42, 22, 23, 24, 5, 25, 26, 7, 9, 10, 11, 12, 14, 15, 27, 28, 29, 30, 31, 32, 49, 50, 51, 52, 53, 54, 55, 56, 57, 58, 68, 69, 70, 71, 72, 73, 74, 75, 59, 60, 61, 62, 63, 64, 65, 66, 67] (by decide +kernel) (by decide +kernel)
set_option maxRecDepth 20000 in
theorem gX7_mark_X7_markOfWindow : GoodIn wsX7_mark (wsV RX7 222 RX7 yX7_markOfWindow wsX7_markOfWindow) := goodIn_app (goodIn_of _ (by decide +kernel)) ggX7_mark_X7_markOfWindow
set_option maxRecDepth 20000 in
theorem ggX7_mark_X7_markOfHull : GoodIn wsX7_mark wsX7_markOfHull := goodIn_r _ [46, 13, 47, 14, 48, 9, 10, 11, 5, 12, 15, 49, 50, 51, 52, 53, 54, 55, 56, 57, 58, 68, 69, 70, 71, 72, 73, 74, 75] (by decide +kernel) (by decide +kernel)
set_option maxRecDepth 20000 in
theorem gX7_mark_X7_markOfHull : GoodIn wsX7_mark (wsV RX7 225 RX7 yX7_markOfHull wsX7_markOfHull) := goodIn_app (goodIn_of _ (by decide +kernel)) ggX7_mark_X7_markOfHull
theorem dX7_mark_0 : decode cX7_mark 0 = .ok (.aload_n 0, 1) := by decide +kernel
theorem dX7_mark_1 : decode cX7_mark 1 = .ok (.iload_n 2, 1) := by decide +kernel
theorem dX7_mark_2 : decode cX7_mark 2 = .ok (.invokevirtual 84, 3) := by decide +kernel
theorem dX7_mark_5 : decode cX7_mark 5 = .ok (.ifCond .ne 6, 3) := by decide +kernel
theorem dX7_mark_8 : decode cX7_mark 8 = .ok (.ldc 192, 2) := by decide +kernel
theorem dX7_mark_10 : decode cX7_mark 10 = .ok (.ireturn, 1) := by decide +kernel
theorem dX7_mark_11 : decode cX7_mark 11 = .ok (.iload_n 1, 1) := by decide +kernel
theorem dX7_mark_12 : decode cX7_mark 12 = .ok (.tableswitch 76 0 5 #[40, 46, 52, 58, 64, 70], 40) := by decide +kernel
theorem dX7_mark_52 : decode cX7_mark 52 = .ok (.aload_n 0, 1) := by decide +kernel
theorem dX7_mark_53 : decode cX7_mark 53 = .ok (.iload_n 2, 1) := by decide +kernel
theorem dX7_mark_54 : decode cX7_mark 54 = .ok (.invokevirtual 210, 3) := by decide +kernel
theorem dX7_mark_57 : decode cX7_mark 57 = .ok (.ireturn, 1) := by decide +kernel
theorem dX7_mark_58 : decode cX7_mark 58 = .ok (.aload_n 0, 1) := by decide +kernel
theorem dX7_mark_59 : decode cX7_mark 59 = .ok (.iload_n 2, 1) := by decide +kernel
theorem dX7_mark_60 : decode cX7_mark 60 = .ok (.invokevirtual 213, 3) := by decide +kernel
theorem dX7_mark_63 : decode cX7_mark 63 = .ok (.ireturn, 1) := by decide +kernel
theorem dX7_mark_64 : decode cX7_mark 64 = .ok (.aload_n 0, 1) := by decide +kernel
theorem dX7_mark_65 : decode cX7_mark 65 = .ok (.iload_n 2, 1) := by decide +kernel
theorem dX7_mark_66 : decode cX7_mark 66 = .ok (.invokevirtual 216, 3) := by decide +kernel
theorem dX7_mark_69 : decode cX7_mark 69 = .ok (.ireturn, 1) := by decide +kernel
theorem dX7_mark_70 : decode cX7_mark 70 = .ok (.aload_n 0, 1) := by decide +kernel
theorem dX7_mark_71 : decode cX7_mark 71 = .ok (.iload_n 2, 1) := by decide +kernel
theorem dX7_mark_72 : decode cX7_mark 72 = .ok (.invokevirtual 219, 3) := by decide +kernel
theorem dX7_mark_75 : decode cX7_mark 75 = .ok (.ireturn, 1) := by decide +kernel
theorem dX7_mark_76 : decode cX7_mark 76 = .ok (.aload_n 0, 1) := by decide +kernel
theorem dX7_mark_77 : decode cX7_mark 77 = .ok (.iload_n 2, 1) := by decide +kernel
theorem dX7_mark_78 : decode cX7_mark 78 = .ok (.invokevirtual 222, 3) := by decide +kernel
theorem dX7_mark_81 : decode cX7_mark 81 = .ok (.ireturn, 1) := by decide +kernel
theorem dX7_mark_82 : decode cX7_mark 82 = .ok (.aload_n 0, 1) := by decide +kernel
theorem dX7_mark_83 : decode cX7_mark 83 = .ok (.iload_n 2, 1) := by decide +kernel
theorem dX7_mark_84 : decode cX7_mark 84 = .ok (.invokevirtual 225, 3) := by decide +kernel
theorem dX7_mark_87 : decode cX7_mark 87 = .ok (.ireturn, 1) := by decide +kernel
theorem dX7_mark_88 : decode cX7_mark 88 = .ok (.ldc 192, 2) := by decide +kernel
theorem dX7_mark_90 : decode cX7_mark 90 = .ok (.ireturn, 1) := by decide +kernel
set_option maxRecDepth 20000 in
theorem ggX7_keep_X7_isImage : GoodIn wsX7_keep wsX7_isImage := goodIn_r _ [8] (by decide +kernel) (by decide +kernel)
set_option maxRecDepth 20000 in
theorem gX7_keep_X7_isImage : GoodIn wsX7_keep (va_wsS RX7 228 yX7_isImage wsX7_isImage) := goodIn_app (goodIn_of _ (by decide +kernel)) ggX7_keep_X7_isImage
set_option maxRecDepth 20000 in
theorem ggX7_keep_X1_copyWithChanges : GoodIn wsX7_keep wsX1_copyWithChanges := goodIn_r _ [13, 14, 15, 16, 17, 18, 12, 19, 20, 21, 22, 23, 24, 35, 36, 37, 38, 39, 40, 41, 42] (by decide +kernel) (by decide +kernel)
set_option maxRecDepth 20000 in
theorem gX7_keep_X1_copyWithChanges : GoodIn wsX7_keep (wsV RX7 231 RX1 yX1_copyWithChanges wsX1_copyWithChanges) := goodIn_app (goodIn_of _ (by decide +kernel)) ggX7_keep_X1_copyWithChanges
theorem dX7_keep_0 : decode cX7_keep 0 = .ok (.iload_n 1, 1) := by decide +kernel
theorem dX7_keep_1 : decode cX7_keep 1 = .ok (.invokestatic 228, 3) := by decide +kernel
theorem dX7_keep_4 : decode cX7_keep 4 = .ok (.ifCond .ne 5, 3) := by decide +kernel
theorem dX7_keep_7 : decode cX7_keep 7 = .ok (.iconst (-1), 1) := by decide +kernel
theorem dX7_keep_8 : decode cX7_keep 8 = .ok (.ireturn, 1) := by decide +kernel
theorem dX7_keep_9 : decode cX7_keep 9 = .ok (.aload_n 0, 1) := by decide +kernel
theorem dX7_keep_10 : decode cX7_keep 10 = .ok (.getfield 44, 3) := by decide +kernel
theorem dX7_keep_13 : decode cX7_keep 13 = .ok (.iload_n 1, 1) := by decide +kernel
theorem dX7_keep_14 : decode cX7_keep 14 = .ok (.aaload, 1) := by decide +kernel
theorem dX7_keep_15 : decode cX7_keep 15 = .ok (.aload_n 0, 1) := by decide +kernel
theorem dX7_keep_16 : decode cX7_keep 16 = .ok (.getfield 26, 3) := by decide +kernel
theorem dX7_keep_19 : decode cX7_keep 19 = .ok (.invokevirtual 231, 3) := by decide +kernel
theorem dX7_keep_22 : decode cX7_keep 22 = .ok (.aload_n 0, 1) := by decide +kernel
theorem dX7_keep_23 : decode cX7_keep 23 = .ok (.dup, 1) := by decide +kernel
theorem dX7_keep_24 : decode cX7_keep 24 = .ok (.getfield 81, 3) := by decide +kernel
theorem dX7_keep_27 : decode cX7_keep 27 = .ok (.iconst 1, 1) := by decide +kernel
theorem dX7_keep_28 : decode cX7_keep 28 = .ok (.iload_n 1, 1) := by decide +kernel
theorem dX7_keep_29 : decode cX7_keep 29 = .ok (.ishl, 1) := by decide +kernel
theorem dX7_keep_30 : decode cX7_keep 30 = .ok (.ior, 1) := by decide +kernel
theorem dX7_keep_31 : decode cX7_keep 31 = .ok (.putfield 81, 3) := by decide +kernel
theorem dX7_keep_34 : decode cX7_keep 34 = .ok (.aload_n 0, 1) := by decide +kernel
theorem dX7_keep_35 : decode cX7_keep 35 = .ok (.getfield 26, 3) := by decide +kernel
theorem dX7_keep_38 : decode cX7_keep 38 = .ok (.getfield 117, 3) := by decide +kernel
theorem dX7_keep_41 : decode cX7_keep 41 = .ok (.ireturn, 1) := by decide +kernel
set_option maxRecDepth 20000 in
theorem ggX7_back_X7_isImage : GoodIn wsX7_back wsX7_isImage := goodIn_r _ [8] (by decide +kernel) (by decide +kernel)
set_option maxRecDepth 20000 in
theorem gX7_back_X7_isImage : GoodIn wsX7_back (va_wsS RX7 228 yX7_isImage wsX7_isImage) := goodIn_app (goodIn_of _ (by decide +kernel)) ggX7_back_X7_isImage
set_option maxRecDepth 20000 in
theorem ggX7_back_X7_bit : GoodIn wsX7_back wsX7_bit := goodIn_r _ [11] (by decide +kernel) (by decide +kernel)
set_option maxRecDepth 20000 in
theorem gX7_back_X7_bit : GoodIn wsX7_back (va_wsS RX7 107 yX7_bit wsX7_bit) := goodIn_app (goodIn_of _ (by decide +kernel)) ggX7_back_X7_bit
set_option maxRecDepth 20000 in
theorem ggX7_back_X1_copyWithChanges : GoodIn wsX7_back wsX1_copyWithChanges := goodIn_r _ [16, 17, 18, 19, 20, 21, 15, 22, 23, 24, 25, 26, 27, 38, 39, 40, 41, 42, 43, 44, 45] (by decide +kernel) (by decide +kernel)
set_option maxRecDepth 20000 in
theorem gX7_back_X1_copyWithChanges : GoodIn wsX7_back (wsV RX7 231 RX1 yX1_copyWithChanges wsX1_copyWithChanges) := goodIn_app (goodIn_of _ (by decide +kernel)) ggX7_back_X1_copyWithChanges
theorem dX7_back_0 : decode cX7_back 0 = .ok (.iload_n 1, 1) := by decide +kernel
theorem dX7_back_1 : decode cX7_back 1 = .ok (.invokestatic 228, 3) := by decide +kernel
theorem dX7_back_4 : decode cX7_back 4 = .ok (.ifCond .ne 5, 3) := by decide +kernel
theorem dX7_back_7 : decode cX7_back 7 = .ok (.iconst (-1), 1) := by decide +kernel
theorem dX7_back_8 : decode cX7_back 8 = .ok (.ireturn, 1) := by decide +kernel
theorem dX7_back_9 : decode cX7_back 9 = .ok (.aload_n 0, 1) := by decide +kernel
theorem dX7_back_10 : decode cX7_back 10 = .ok (.getfield 81, 3) := by decide +kernel
theorem dX7_back_13 : decode cX7_back 13 = .ok (.iload_n 1, 1) := by decide +kernel
theorem dX7_back_14 : decode cX7_back 14 = .ok (.invokestatic 107, 3) := by decide +kernel
theorem dX7_back_17 : decode cX7_back 17 = .ok (.ifCond .ne 6, 3) := by decide +kernel
theorem dX7_back_20 : decode cX7_back 20 = .ok (.bipush (-2), 2) := by decide +kernel
theorem dX7_back_22 : decode cX7_back 22 = .ok (.ireturn, 1) := by decide +kernel
theorem dX7_back_23 : decode cX7_back 23 = .ok (.aload_n 0, 1) := by decide +kernel
theorem dX7_back_24 : decode cX7_back 24 = .ok (.getfield 26, 3) := by decide +kernel
theorem dX7_back_27 : decode cX7_back 27 = .ok (.aload_n 0, 1) := by decide +kernel
theorem dX7_back_28 : decode cX7_back 28 = .ok (.getfield 44, 3) := by decide +kernel
theorem dX7_back_31 : decode cX7_back 31 = .ok (.iload_n 1, 1) := by decide +kernel
theorem dX7_back_32 : decode cX7_back 32 = .ok (.aaload, 1) := by decide +kernel
theorem dX7_back_33 : decode cX7_back 33 = .ok (.invokevirtual 231, 3) := by decide +kernel
theorem dX7_back_36 : decode cX7_back 36 = .ok (.aload_n 0, 1) := by decide +kernel
theorem dX7_back_37 : decode cX7_back 37 = .ok (.getfield 26, 3) := by decide +kernel
theorem dX7_back_40 : decode cX7_back 40 = .ok (.getfield 117, 3) := by decide +kernel
theorem dX7_back_43 : decode cX7_back 43 = .ok (.ireturn, 1) := by decide +kernel
set_option maxRecDepth 20000 in
theorem ggX7_count_J6_bitCount_0f7a4 : GoodIn wsX7_count wsJ6_bitCount_0f7a4 := goodIn_r _ [15, 16, 17, 18] (by decide +kernel) (by decide +kernel)
set_option maxRecDepth 20000 in
theorem gX7_count_J6_bitCount_0f7a4 : GoodIn wsX7_count (va_wsS RX7 130 yJ6_bitCount_0f7a4 wsJ6_bitCount_0f7a4) := goodIn_app (goodIn_of _ (by decide +kernel)) ggX7_count_J6_bitCount_0f7a4
theorem dX7_count_0 : decode cX7_count 0 = .ok (.iload_n 1, 1) := by decide +kernel
theorem dX7_count_1 : decode cX7_count 1 = .ok (.tableswitch 105 0 6 #[43, 51, 59, 70, 81, 89, 97], 43) := by decide +kernel
theorem dX7_count_44 : decode cX7_count 44 = .ok (.aload_n 0, 1) := by decide +kernel
theorem dX7_count_45 : decode cX7_count 45 = .ok (.getfield 51, 3) := by decide +kernel
theorem dX7_count_48 : decode cX7_count 48 = .ok (.getfield 141, 3) := by decide +kernel
theorem dX7_count_51 : decode cX7_count 51 = .ok (.ireturn, 1) := by decide +kernel
theorem dX7_count_52 : decode cX7_count 52 = .ok (.aload_n 0, 1) := by decide +kernel
theorem dX7_count_53 : decode cX7_count 53 = .ok (.getfield 51, 3) := by decide +kernel
theorem dX7_count_56 : decode cX7_count 56 = .ok (.getfield 234, 3) := by decide +kernel
theorem dX7_count_59 : decode cX7_count 59 = .ok (.ireturn, 1) := by decide +kernel
theorem dX7_count_60 : decode cX7_count 60 = .ok (.aload_n 0, 1) := by decide +kernel
theorem dX7_count_61 : decode cX7_count 61 = .ok (.getfield 26, 3) := by decide +kernel
theorem dX7_count_64 : decode cX7_count 64 = .ok (.getfield 104, 3) := by decide +kernel
theorem dX7_count_67 : decode cX7_count 67 = .ok (.invokestatic 130, 3) := by decide +kernel
theorem dX7_count_70 : decode cX7_count 70 = .ok (.ireturn, 1) := by decide +kernel
theorem dX7_count_71 : decode cX7_count 71 = .ok (.aload_n 0, 1) := by decide +kernel
theorem dX7_count_72 : decode cX7_count 72 = .ok (.getfield 26, 3) := by decide +kernel
theorem dX7_count_75 : decode cX7_count 75 = .ok (.getfield 111, 3) := by decide +kernel
theorem dX7_count_78 : decode cX7_count 78 = .ok (.invokestatic 130, 3) := by decide +kernel
theorem dX7_count_81 : decode cX7_count 81 = .ok (.ireturn, 1) := by decide +kernel
theorem dX7_count_82 : decode cX7_count 82 = .ok (.aload_n 0, 1) := by decide +kernel
theorem dX7_count_83 : decode cX7_count 83 = .ok (.getfield 33, 3) := by decide +kernel
theorem dX7_count_86 : decode cX7_count 86 = .ok (.getfield 78, 3) := by decide +kernel
theorem dX7_count_89 : decode cX7_count 89 = .ok (.ireturn, 1) := by decide +kernel
theorem dX7_count_90 : decode cX7_count 90 = .ok (.aload_n 0, 1) := by decide +kernel
theorem dX7_count_91 : decode cX7_count 91 = .ok (.getfield 26, 3) := by decide +kernel
theorem dX7_count_94 : decode cX7_count 94 = .ok (.getfield 135, 3) := by decide +kernel
theorem dX7_count_97 : decode cX7_count 97 = .ok (.ireturn, 1) := by decide +kernel
theorem dX7_count_98 : decode cX7_count 98 = .ok (.aload_n 0, 1) := by decide +kernel
theorem dX7_count_99 : decode cX7_count 99 = .ok (.getfield 12, 3) := by decide +kernel
theorem dX7_count_102 : decode cX7_count 102 = .ok (.getfield 66, 3) := by decide +kernel
theorem dX7_count_105 : decode cX7_count 105 = .ok (.ireturn, 1) := by decide +kernel
theorem dX7_count_106 : decode cX7_count 106 = .ok (.iconst (-1), 1) := by decide +kernel
theorem dX7_count_107 : decode cX7_count 107 = .ok (.ireturn, 1) := by decide +kernel
theorem dX7_trace_0 : decode cX7_trace 0 = .ok (.aload_n 0, 1) := by decide +kernel
theorem dX7_trace_1 : decode cX7_trace 1 = .ok (.getfield 237, 3) := by decide +kernel
theorem dX7_trace_4 : decode cX7_trace 4 = .ok (.lreturn, 1) := by decide +kernel
theorem dX7_isWall_0 : decode cX7_isWall 0 = .ok (.iload_n 1, 1) := by decide +kernel
theorem dX7_isWall_1 : decode cX7_isWall 1 = .ok (.ifCond .lt 18, 3) := by decide +kernel
theorem dX7_isWall_4 : decode cX7_isWall 4 = .ok (.iload_n 1, 1) := by decide +kernel
theorem dX7_isWall_5 : decode cX7_isWall 5 = .ok (.aload_n 0, 1) := by decide +kernel
theorem dX7_isWall_6 : decode cX7_isWall 6 = .ok (.getfield 51, 3) := by decide +kernel
theorem dX7_isWall_9 : decode cX7_isWall 9 = .ok (.getfield 141, 3) := by decide +kernel
theorem dX7_isWall_12 : decode cX7_isWall 12 = .ok (.if_icmp .ge 7, 3) := by decide +kernel
theorem dX7_isWall_15 : decode cX7_isWall 15 = .ok (.iconst 1, 1) := by decide +kernel
theorem dX7_isWall_16 : decode cX7_isWall 16 = .ok (.goto 4, 3) := by decide +kernel
theorem dX7_isWall_19 : decode cX7_isWall 19 = .ok (.iconst 0, 1) := by decide +kernel
theorem dX7_isWall_20 : decode cX7_isWall 20 = .ok (.ireturn, 1) := by decide +kernel
theorem dX7_isImage_0 : decode cX7_isImage 0 = .ok (.iload_n 0, 1) := by decide +kernel
theorem dX7_isImage_1 : decode cX7_isImage 1 = .ok (.ifCond .lt 12, 3) := by decide +kernel
theorem dX7_isImage_4 : decode cX7_isImage 4 = .ok (.iload_n 0, 1) := by decide +kernel
theorem dX7_isImage_5 : decode cX7_isImage 5 = .ok (.iconst 2, 1) := by decide +kernel
theorem dX7_isImage_6 : decode cX7_isImage 6 = .ok (.if_icmp .ge 7, 3) := by decide +kernel
theorem dX7_isImage_9 : decode cX7_isImage 9 = .ok (.iconst 1, 1) := by decide +kernel
theorem dX7_isImage_10 : decode cX7_isImage 10 = .ok (.goto 4, 3) := by decide +kernel
theorem dX7_isImage_13 : decode cX7_isImage 13 = .ok (.iconst 0, 1) := by decide +kernel
theorem dX7_isImage_14 : decode cX7_isImage 14 = .ok (.ireturn, 1) := by decide +kernel
theorem dX7_isBit_0 : decode cX7_isBit 0 = .ok (.iload_n 0, 1) := by decide +kernel
theorem dX7_isBit_1 : decode cX7_isBit 1 = .ok (.ifCond .eq 8, 3) := by decide +kernel
theorem dX7_isBit_4 : decode cX7_isBit 4 = .ok (.iload_n 0, 1) := by decide +kernel
theorem dX7_isBit_5 : decode cX7_isBit 5 = .ok (.iconst 1, 1) := by decide +kernel
theorem dX7_isBit_6 : decode cX7_isBit 6 = .ok (.if_icmp .ne 7, 3) := by decide +kernel
theorem dX7_isBit_9 : decode cX7_isBit 9 = .ok (.iconst 1, 1) := by decide +kernel
theorem dX7_isBit_10 : decode cX7_isBit 10 = .ok (.goto 4, 3) := by decide +kernel
theorem dX7_isBit_13 : decode cX7_isBit 13 = .ok (.iconst 0, 1) := by decide +kernel
theorem dX7_isBit_14 : decode cX7_isBit 14 = .ok (.ireturn, 1) := by decide +kernel
theorem dX7_isWithin_0 : decode cX7_isWithin 0 = .ok (.iload_n 0, 1) := by decide +kernel
theorem dX7_isWithin_1 : decode cX7_isWithin 1 = .ok (.ifCond .lt 12, 3) := by decide +kernel
theorem dX7_isWithin_4 : decode cX7_isWithin 4 = .ok (.iload_n 0, 1) := by decide +kernel
theorem dX7_isWithin_5 : decode cX7_isWithin 5 = .ok (.iload_n 1, 1) := by decide +kernel
theorem dX7_isWithin_6 : decode cX7_isWithin 6 = .ok (.if_icmp .gt 7, 3) := by decide +kernel
theorem dX7_isWithin_9 : decode cX7_isWithin 9 = .ok (.iconst 1, 1) := by decide +kernel
theorem dX7_isWithin_10 : decode cX7_isWithin 10 = .ok (.goto 4, 3) := by decide +kernel
theorem dX7_isWithin_13 : decode cX7_isWithin 13 = .ok (.iconst 0, 1) := by decide +kernel
theorem dX7_isWithin_14 : decode cX7_isWithin 14 = .ok (.ireturn, 1) := by decide +kernel
theorem dX7_bit_0 : decode cX7_bit 0 = .ok (.iload_n 0, 1) := by decide +kernel
theorem dX7_bit_1 : decode cX7_bit 1 = .ok (.iload_n 1, 1) := by decide +kernel
theorem dX7_bit_2 : decode cX7_bit 2 = .ok (.ishr, 1) := by decide +kernel
theorem dX7_bit_3 : decode cX7_bit 3 = .ok (.iconst 1, 1) := by decide +kernel
theorem dX7_bit_4 : decode cX7_bit 4 = .ok (.iand, 1) := by decide +kernel
theorem dX7_bit_5 : decode cX7_bit 5 = .ok (.ireturn, 1) := by decide +kernel
set_option maxRecDepth 20000 in
theorem ggX7_leastOf_X7_bit : GoodIn wsX7_leastOf wsX7_bit := goodIn_r _ [4] (by decide +kernel) (by decide +kernel)
set_option maxRecDepth 20000 in
theorem gX7_leastOf_X7_bit : GoodIn wsX7_leastOf (va_wsS RX7 107 yX7_bit wsX7_bit) := goodIn_app (goodIn_of _ (by decide +kernel)) ggX7_leastOf_X7_bit
theorem dX7_leastOf_0 : decode cX7_leastOf 0 = .ok (.iconst 0, 1) := by decide +kernel
theorem dX7_leastOf_1 : decode cX7_leastOf 1 = .ok (.istore_n 1, 1) := by decide +kernel
theorem dX7_leastOf_2 : decode cX7_leastOf 2 = .ok (.iload_n 1, 1) := by decide +kernel
theorem dX7_leastOf_3 : decode cX7_leastOf 3 = .ok (.bipush 6, 2) := by decide +kernel
theorem dX7_leastOf_5 : decode cX7_leastOf 5 = .ok (.if_icmp .ge 20, 3) := by decide +kernel
theorem dX7_leastOf_8 : decode cX7_leastOf 8 = .ok (.iload_n 0, 1) := by decide +kernel
theorem dX7_leastOf_9 : decode cX7_leastOf 9 = .ok (.iload_n 1, 1) := by decide +kernel
theorem dX7_leastOf_10 : decode cX7_leastOf 10 = .ok (.invokestatic 107, 3) := by decide +kernel
theorem dX7_leastOf_13 : decode cX7_leastOf 13 = .ok (.iconst 1, 1) := by decide +kernel
theorem dX7_leastOf_14 : decode cX7_leastOf 14 = .ok (.if_icmp .ne 5, 3) := by decide +kernel
theorem dX7_leastOf_17 : decode cX7_leastOf 17 = .ok (.iload_n 1, 1) := by decide +kernel
theorem dX7_leastOf_18 : decode cX7_leastOf 18 = .ok (.ireturn, 1) := by decide +kernel
theorem dX7_leastOf_19 : decode cX7_leastOf 19 = .ok (.iinc 1 1, 3) := by decide +kernel
theorem dX7_leastOf_22 : decode cX7_leastOf 22 = .ok (.goto (-20), 3) := by decide +kernel
theorem dX7_leastOf_25 : decode cX7_leastOf 25 = .ok (.bipush (-9), 2) := by decide +kernel
theorem dX7_leastOf_27 : decode cX7_leastOf 27 = .ok (.ireturn, 1) := by decide +kernel
set_option maxRecDepth 20000 in
theorem ggX7_busyHours_J6_bitCount_0f7a4 : GoodIn wsX7_busyHours wsJ6_bitCount_0f7a4 := goodIn_r _ [8, 9, 10, 11] (by decide +kernel) (by decide +kernel)
set_option maxRecDepth 20000 in
theorem gX7_busyHours_J6_bitCount_0f7a4 : GoodIn wsX7_busyHours (va_wsS RX7 130 yJ6_bitCount_0f7a4 wsJ6_bitCount_0f7a4) := goodIn_app (goodIn_of _ (by decide +kernel)) ggX7_busyHours_J6_bitCount_0f7a4
set_option maxRecDepth 20000 in
theorem ggX7_busyHours_X0_staysCool : GoodIn wsX7_busyHours wsX0_staysCool := goodIn_r _ [16, 17, 18, 19, 20, 21, 15, 22, 23, 24, 25, 26, 27, 28, 29, 30, 31, 32, 33, 34, 35, 36, 37, 38, 39, 40, 41, 42, 43, 44, 45, 46, 47, 48, 49, 50, 51, 52, 53, 54, 55, 66, 67, 68, 78, 79, 80, 81, 82, 83, 84, 85, 69, 70, 71, 72, 73, 74, 75, 76, 77] (by decide +kernel) (by decide +kernel)
set_option maxRecDepth 20000 in
theorem gX7_busyHours_X0_staysCool : GoodIn wsX7_busyHours (wsV RX7 241 RX0 yX0_staysCool wsX0_staysCool) := goodIn_app (goodIn_of _ (by decide +kernel)) ggX7_busyHours_X0_staysCool
theorem dX7_busyHours_0 : decode cX7_busyHours 0 = .ok (.iconst 0, 1) := by decide +kernel
theorem dX7_busyHours_1 : decode cX7_busyHours 1 = .ok (.istore_n 3, 1) := by decide +kernel
theorem dX7_busyHours_2 : decode cX7_busyHours 2 = .ok (.iload_n 3, 1) := by decide +kernel
theorem dX7_busyHours_3 : decode cX7_busyHours 3 = .ok (.sipush 255, 3) := by decide +kernel
theorem dX7_busyHours_6 : decode cX7_busyHours 6 = .ok (.if_icmp .gt 48, 3) := by decide +kernel
theorem dX7_busyHours_9 : decode cX7_busyHours 9 = .ok (.iload_n 3, 1) := by decide +kernel
theorem dX7_busyHours_10 : decode cX7_busyHours 10 = .ok (.invokestatic 130, 3) := by decide +kernel
theorem dX7_busyHours_13 : decode cX7_busyHours 13 = .ok (.iload_n 2, 1) := by decide +kernel
theorem dX7_busyHours_14 : decode cX7_busyHours 14 = .ok (.if_icmp .ne 34, 3) := by decide +kernel
theorem dX7_busyHours_17 : decode cX7_busyHours 17 = .ok (.aload_n 0, 1) := by decide +kernel
theorem dX7_busyHours_18 : decode cX7_busyHours 18 = .ok (.getfield 40, 3) := by decide +kernel
theorem dX7_busyHours_21 : decode cX7_busyHours 21 = .ok (.getfield 179, 3) := by decide +kernel
theorem dX7_busyHours_24 : decode cX7_busyHours 24 = .ok (.getfield 97, 3) := by decide +kernel
theorem dX7_busyHours_27 : decode cX7_busyHours 27 = .ok (.iload_n 1, 1) := by decide +kernel
theorem dX7_busyHours_28 : decode cX7_busyHours 28 = .ok (.iload_n 3, 1) := by decide +kernel
theorem dX7_busyHours_29 : decode cX7_busyHours 29 = .ok (.iastore, 1) := by decide +kernel
theorem dX7_busyHours_30 : decode cX7_busyHours 30 = .ok (.aload_n 0, 1) := by decide +kernel
theorem dX7_busyHours_31 : decode cX7_busyHours 31 = .ok (.getfield 40, 3) := by decide +kernel
theorem dX7_busyHours_34 : decode cX7_busyHours 34 = .ok (.aload_n 0, 1) := by decide +kernel
theorem dX7_busyHours_35 : decode cX7_busyHours 35 = .ok (.getfield 26, 3) := by decide +kernel
theorem dX7_busyHours_38 : decode cX7_busyHours 38 = .ok (.bipush 16, 2) := by decide +kernel
theorem dX7_busyHours_40 : decode cX7_busyHours 40 = .ok (.invokevirtual 241, 3) := by decide +kernel
theorem dX7_busyHours_43 : decode cX7_busyHours 43 = .ok (.ifCond .eq 5, 3) := by decide +kernel
theorem dX7_busyHours_46 : decode cX7_busyHours 46 = .ok (.iload_n 3, 1) := by decide +kernel
theorem dX7_busyHours_47 : decode cX7_busyHours 47 = .ok (.ireturn, 1) := by decide +kernel
theorem dX7_busyHours_48 : decode cX7_busyHours 48 = .ok (.iinc 3 1, 3) := by decide +kernel
theorem dX7_busyHours_51 : decode cX7_busyHours 51 = .ok (.goto (-49), 3) := by decide +kernel
theorem dX7_busyHours_54 : decode cX7_busyHours 54 = .ok (.bipush (-9), 2) := by decide +kernel
theorem dX7_busyHours_56 : decode cX7_busyHours 56 = .ok (.ireturn, 1) := by decide +kernel
set_option maxRecDepth 20000 in
theorem ggX7_blanketOf_J6_bitCount_0f7a4 : GoodIn wsX7_blanketOf wsJ6_bitCount_0f7a4 := goodIn_r _ [9, 10, 11, 12] (by decide +kernel) (by decide +kernel)
set_option maxRecDepth 20000 in
theorem gX7_blanketOf_J6_bitCount_0f7a4 : GoodIn wsX7_blanketOf (va_wsS RX7 130 yJ6_bitCount_0f7a4 wsJ6_bitCount_0f7a4) := goodIn_app (goodIn_of _ (by decide +kernel)) ggX7_blanketOf_J6_bitCount_0f7a4
set_option maxRecDepth 20000 in
theorem ggX7_blanketOf_X0_warmthIfMirrors : GoodIn wsX7_blanketOf wsX0_warmthIfMirrors := goodIn_r _ [17, 18, 19, 20, 21, 22, 23, 16, 24, 25, 26, 27, 28, 29, 30, 31, 32, 33, 34, 35, 36, 37, 38, 39, 40, 41, 42, 43, 44, 45, 46, 47, 48, 49, 50, 51, 52, 53, 54, 55, 56, 84, 85, 86, 67, 68, 69, 70, 71, 72, 73, 74, 75, 76, 77, 78, 79, 80, 81, 82, 83] (by decide +kernel) (by decide +kernel)
set_option maxRecDepth 20000 in
theorem gX7_blanketOf_X0_warmthIfMirrors : GoodIn wsX7_blanketOf (wsV RX7 245 RX0 yX0_warmthIfMirrors wsX0_warmthIfMirrors) := goodIn_app (goodIn_of _ (by decide +kernel)) ggX7_blanketOf_X0_warmthIfMirrors
theorem dX7_blanketOf_0 : decode cX7_blanketOf 0 = .ok (.aload_n 0, 1) := by decide +kernel
theorem dX7_blanketOf_1 : decode cX7_blanketOf 1 = .ok (.getfield 26, 3) := by decide +kernel
theorem dX7_blanketOf_4 : decode cX7_blanketOf 4 = .ok (.getfield 111, 3) := by decide +kernel
theorem dX7_blanketOf_7 : decode cX7_blanketOf 7 = .ok (.iconst 1, 1) := by decide +kernel
theorem dX7_blanketOf_8 : decode cX7_blanketOf 8 = .ok (.iload_n 1, 1) := by decide +kernel
theorem dX7_blanketOf_9 : decode cX7_blanketOf 9 = .ok (.ishl, 1) := by decide +kernel
theorem dX7_blanketOf_10 : decode cX7_blanketOf 10 = .ok (.ior, 1) := by decide +kernel
theorem dX7_blanketOf_11 : decode cX7_blanketOf 11 = .ok (.istore 5, 2) := by decide +kernel
theorem dX7_blanketOf_13 : decode cX7_blanketOf 13 = .ok (.iconst 0, 1) := by decide +kernel
theorem dX7_blanketOf_14 : decode cX7_blanketOf 14 = .ok (.istore 6, 2) := by decide +kernel
theorem dX7_blanketOf_16 : decode cX7_blanketOf 16 = .ok (.iload 6, 2) := by decide +kernel
theorem dX7_blanketOf_18 : decode cX7_blanketOf 18 = .ok (.iconst 1, 1) := by decide +kernel
theorem dX7_blanketOf_19 : decode cX7_blanketOf 19 = .ok (.aload_n 0, 1) := by decide +kernel
theorem dX7_blanketOf_20 : decode cX7_blanketOf 20 = .ok (.getfield 51, 3) := by decide +kernel
theorem dX7_blanketOf_23 : decode cX7_blanketOf 23 = .ok (.getfield 141, 3) := by decide +kernel
theorem dX7_blanketOf_26 : decode cX7_blanketOf 26 = .ok (.ishl, 1) := by decide +kernel
theorem dX7_blanketOf_27 : decode cX7_blanketOf 27 = .ok (.if_icmp .ge 53, 3) := by decide +kernel
theorem dX7_blanketOf_30 : decode cX7_blanketOf 30 = .ok (.iload 6, 2) := by decide +kernel
theorem dX7_blanketOf_32 : decode cX7_blanketOf 32 = .ok (.iload 5, 2) := by decide +kernel
theorem dX7_blanketOf_34 : decode cX7_blanketOf 34 = .ok (.iand, 1) := by decide +kernel
theorem dX7_blanketOf_35 : decode cX7_blanketOf 35 = .ok (.ifCond .ne 39, 3) := by decide +kernel
theorem dX7_blanketOf_38 : decode cX7_blanketOf 38 = .ok (.iload 6, 2) := by decide +kernel
theorem dX7_blanketOf_40 : decode cX7_blanketOf 40 = .ok (.invokestatic 130, 3) := by decide +kernel
theorem dX7_blanketOf_43 : decode cX7_blanketOf 43 = .ok (.iload 4, 2) := by decide +kernel
theorem dX7_blanketOf_45 : decode cX7_blanketOf 45 = .ok (.if_icmp .ne 29, 3) := by decide +kernel
theorem dX7_blanketOf_48 : decode cX7_blanketOf 48 = .ok (.aload_n 0, 1) := by decide +kernel
theorem dX7_blanketOf_49 : decode cX7_blanketOf 49 = .ok (.getfield 40, 3) := by decide +kernel
theorem dX7_blanketOf_52 : decode cX7_blanketOf 52 = .ok (.aload_n 0, 1) := by decide +kernel
theorem dX7_blanketOf_53 : decode cX7_blanketOf 53 = .ok (.getfield 26, 3) := by decide +kernel
theorem dX7_blanketOf_56 : decode cX7_blanketOf 56 = .ok (.aload_n 0, 1) := by decide +kernel
theorem dX7_blanketOf_57 : decode cX7_blanketOf 57 = .ok (.getfield 51, 3) := by decide +kernel
theorem dX7_blanketOf_60 : decode cX7_blanketOf 60 = .ok (.iload 6, 2) := by decide +kernel
theorem dX7_blanketOf_62 : decode cX7_blanketOf 62 = .ok (.iload_n 3, 1) := by decide +kernel
theorem dX7_blanketOf_63 : decode cX7_blanketOf 63 = .ok (.iload_n 1, 1) := by decide +kernel
theorem dX7_blanketOf_64 : decode cX7_blanketOf 64 = .ok (.invokevirtual 245, 3) := by decide +kernel
theorem dX7_blanketOf_67 : decode cX7_blanketOf 67 = .ok (.iload_n 2, 1) := by decide +kernel
theorem dX7_blanketOf_68 : decode cX7_blanketOf 68 = .ok (.if_icmp .lt 6, 3) := by decide +kernel
theorem dX7_blanketOf_71 : decode cX7_blanketOf 71 = .ok (.iload 6, 2) := by decide +kernel
theorem dX7_blanketOf_73 : decode cX7_blanketOf 73 = .ok (.ireturn, 1) := by decide +kernel
theorem dX7_blanketOf_74 : decode cX7_blanketOf 74 = .ok (.iinc 6 1, 3) := by decide +kernel
theorem dX7_blanketOf_77 : decode cX7_blanketOf 77 = .ok (.goto (-61), 3) := by decide +kernel
theorem dX7_blanketOf_80 : decode cX7_blanketOf 80 = .ok (.bipush (-9), 2) := by decide +kernel
theorem dX7_blanketOf_82 : decode cX7_blanketOf 82 = .ok (.ireturn, 1) := by decide +kernel
set_option maxRecDepth 20000 in
theorem ggX7_harmDone_X6_copy : GoodIn wsX7_harmDone wsX6_copy := goodIn_r _ [12, 13, 14, 15, 16, 17, 18, 19, 20, 21, 77, 78, 79, 80, 81, 82, 83, 84, 85] (by decide +kernel) (by decide +kernel)
set_option maxRecDepth 20000 in
theorem gX7_harmDone_X6_copy : GoodIn wsX7_harmDone (wsV RX7 182 RX6 yX6_copy wsX6_copy) := goodIn_app (goodIn_of _ (by decide +kernel)) ggX7_harmDone_X6_copy
set_option maxRecDepth 20000 in
theorem ggX7_harmDone_X0_setOut : GoodIn wsX7_harmDone wsX0_setOut := goodIn_r _ [26, 27, 28, 29, 30, 31, 32, 33, 34, 35, 36, 37, 74, 75, 76, 86, 87, 88, 89, 90, 91, 92, 93] (by decide +kernel) (by decide +kernel)
set_option maxRecDepth 20000 in
theorem gX7_harmDone_X0_setOut : GoodIn wsX7_harmDone (wsV RX7 158 RX0 yX0_setOut wsX0_setOut) := goodIn_app (goodIn_of _ (by decide +kernel)) ggX7_harmDone_X0_setOut
set_option maxRecDepth 20000 in
theorem ggX7_harmDone_X0_goOn : GoodIn wsX7_harmDone wsX0_goOn := goodIn_r _ [41, 27, 42, 43, 44, 31, 45, 33, 46, 47, 37, 48, 49, 50, 36, 51, 52, 53, 54, 55, 56, 57, 34, 58, 59, 35, 74, 75, 76, 86, 87, 88, 89, 90, 91, 92, 93, 77, 78, 79, 80, 81, 82, 83, 84, 85] (by decide +kernel) (by decide +kernel)
set_option maxRecDepth 20000 in
theorem gX7_harmDone_X0_goOn : GoodIn wsX7_harmDone (wsV RX7 162 RX0 yX0_goOn wsX0_goOn) := goodIn_app (goodIn_of _ (by decide +kernel)) ggX7_harmDone_X0_goOn
set_option maxRecDepth 20000 in
theorem ggX7_harmDone_X1_warmthOfAll : GoodIn wsX7_harmDone wsX1_warmthOfAll := goodIn_r _ [63, 37, 86, 87, 88, 89, 90, 91, 92, 93] (by decide +kernel) (by decide +kernel)
set_option maxRecDepth 20000 in
theorem gX7_harmDone_X1_warmthOfAll : GoodIn wsX7_harmDone (wsV RX7 142 RX1 yX1_warmthOfAll wsX1_warmthOfAll) := goodIn_app (goodIn_of _ (by decide +kernel)) ggX7_harmDone_X1_warmthOfAll
theorem dX7_harmDone_0 : decode cX7_harmDone 0 = .ok (.aload_n 0, 1) := by decide +kernel
theorem dX7_harmDone_1 : decode cX7_harmDone 1 = .ok (.getfield 40, 3) := by decide +kernel
theorem dX7_harmDone_4 : decode cX7_harmDone 4 = .ok (.getfield 179, 3) := by decide +kernel
theorem dX7_harmDone_7 : decode cX7_harmDone 7 = .ok (.aload_n 0, 1) := by decide +kernel
theorem dX7_harmDone_8 : decode cX7_harmDone 8 = .ok (.getfield 51, 3) := by decide +kernel
theorem dX7_harmDone_11 : decode cX7_harmDone 11 = .ok (.invokevirtual 182, 3) := by decide +kernel
theorem dX7_harmDone_14 : decode cX7_harmDone 14 = .ok (.aload_n 0, 1) := by decide +kernel
theorem dX7_harmDone_15 : decode cX7_harmDone 15 = .ok (.getfield 40, 3) := by decide +kernel
theorem dX7_harmDone_18 : decode cX7_harmDone 18 = .ok (.aload_n 0, 1) := by decide +kernel
theorem dX7_harmDone_19 : decode cX7_harmDone 19 = .ok (.getfield 26, 3) := by decide +kernel
theorem dX7_harmDone_22 : decode cX7_harmDone 22 = .ok (.invokevirtual 158, 3) := by decide +kernel
theorem dX7_harmDone_25 : decode cX7_harmDone 25 = .ok (.aload_n 0, 1) := by decide +kernel
theorem dX7_harmDone_26 : decode cX7_harmDone 26 = .ok (.getfield 40, 3) := by decide +kernel
theorem dX7_harmDone_29 : decode cX7_harmDone 29 = .ok (.aload_n 0, 1) := by decide +kernel
theorem dX7_harmDone_30 : decode cX7_harmDone 30 = .ok (.getfield 51, 3) := by decide +kernel
theorem dX7_harmDone_33 : decode cX7_harmDone 33 = .ok (.bipush 8, 2) := by decide +kernel
theorem dX7_harmDone_35 : decode cX7_harmDone 35 = .ok (.invokevirtual 162, 3) := by decide +kernel
theorem dX7_harmDone_38 : decode cX7_harmDone 38 = .ok (.aload_n 0, 1) := by decide +kernel
theorem dX7_harmDone_39 : decode cX7_harmDone 39 = .ok (.getfield 40, 3) := by decide +kernel
theorem dX7_harmDone_42 : decode cX7_harmDone 42 = .ok (.getfield 166, 3) := by decide +kernel
theorem dX7_harmDone_45 : decode cX7_harmDone 45 = .ok (.aload_n 0, 1) := by decide +kernel
theorem dX7_harmDone_46 : decode cX7_harmDone 46 = .ok (.getfield 51, 3) := by decide +kernel
theorem dX7_harmDone_49 : decode cX7_harmDone 49 = .ok (.getfield 141, 3) := by decide +kernel
theorem dX7_harmDone_52 : decode cX7_harmDone 52 = .ok (.invokevirtual 142, 3) := by decide +kernel
theorem dX7_harmDone_55 : decode cX7_harmDone 55 = .ok (.istore_n 3, 1) := by decide +kernel
theorem dX7_harmDone_56 : decode cX7_harmDone 56 = .ok (.aload_n 0, 1) := by decide +kernel
theorem dX7_harmDone_57 : decode cX7_harmDone 57 = .ok (.getfield 40, 3) := by decide +kernel
theorem dX7_harmDone_60 : decode cX7_harmDone 60 = .ok (.getfield 179, 3) := by decide +kernel
theorem dX7_harmDone_63 : decode cX7_harmDone 63 = .ok (.getfield 249, 3) := by decide +kernel
theorem dX7_harmDone_66 : decode cX7_harmDone 66 = .ok (.iload_n 1, 1) := by decide +kernel
theorem dX7_harmDone_67 : decode cX7_harmDone 67 = .ok (.iload_n 2, 1) := by decide +kernel
theorem dX7_harmDone_68 : decode cX7_harmDone 68 = .ok (.iastore, 1) := by decide +kernel
theorem dX7_harmDone_69 : decode cX7_harmDone 69 = .ok (.aload_n 0, 1) := by decide +kernel
theorem dX7_harmDone_70 : decode cX7_harmDone 70 = .ok (.getfield 40, 3) := by decide +kernel
theorem dX7_harmDone_73 : decode cX7_harmDone 73 = .ok (.aload_n 0, 1) := by decide +kernel
theorem dX7_harmDone_74 : decode cX7_harmDone 74 = .ok (.getfield 26, 3) := by decide +kernel
theorem dX7_harmDone_77 : decode cX7_harmDone 77 = .ok (.invokevirtual 158, 3) := by decide +kernel
theorem dX7_harmDone_80 : decode cX7_harmDone 80 = .ok (.aload_n 0, 1) := by decide +kernel
theorem dX7_harmDone_81 : decode cX7_harmDone 81 = .ok (.getfield 40, 3) := by decide +kernel
theorem dX7_harmDone_84 : decode cX7_harmDone 84 = .ok (.aload_n 0, 1) := by decide +kernel
theorem dX7_harmDone_85 : decode cX7_harmDone 85 = .ok (.getfield 40, 3) := by decide +kernel
theorem dX7_harmDone_88 : decode cX7_harmDone 88 = .ok (.getfield 179, 3) := by decide +kernel
theorem dX7_harmDone_91 : decode cX7_harmDone 91 = .ok (.bipush 8, 2) := by decide +kernel
theorem dX7_harmDone_93 : decode cX7_harmDone 93 = .ok (.invokevirtual 162, 3) := by decide +kernel
theorem dX7_harmDone_96 : decode cX7_harmDone 96 = .ok (.aload_n 0, 1) := by decide +kernel
theorem dX7_harmDone_97 : decode cX7_harmDone 97 = .ok (.getfield 40, 3) := by decide +kernel
theorem dX7_harmDone_100 : decode cX7_harmDone 100 = .ok (.getfield 166, 3) := by decide +kernel
theorem dX7_harmDone_103 : decode cX7_harmDone 103 = .ok (.aload_n 0, 1) := by decide +kernel
theorem dX7_harmDone_104 : decode cX7_harmDone 104 = .ok (.getfield 51, 3) := by decide +kernel
theorem dX7_harmDone_107 : decode cX7_harmDone 107 = .ok (.getfield 141, 3) := by decide +kernel
theorem dX7_harmDone_110 : decode cX7_harmDone 110 = .ok (.invokevirtual 142, 3) := by decide +kernel
theorem dX7_harmDone_113 : decode cX7_harmDone 113 = .ok (.iload_n 3, 1) := by decide +kernel
theorem dX7_harmDone_114 : decode cX7_harmDone 114 = .ok (.isub, 1) := by decide +kernel
theorem dX7_harmDone_115 : decode cX7_harmDone 115 = .ok (.ireturn, 1) := by decide +kernel
set_option maxRecDepth 20000 in
theorem ggX7_leastHarmed_X7_harmDone : GoodIn wsX7_leastHarmed wsX7_harmDone := goodIn_r _ [7, 8, 9, 1, 10, 11, 2, 12, 13, 14, 15, 16, 17, 18, 19, 20, 21, 22, 23, 24, 25, 26, 27, 28, 29, 30, 31, 32, 33, 34, 35, 36, 37, 38, 39, 40, 41, 42, 43, 44, 45, 46, 47, 48, 49, 50, 51, 52, 53, 54, 55, 56, 6, 57, 58, 59, 60, 61, 62, 63, 64, 65, 66, 67, 68, 69, 70, 71, 72, 73, 74, 75, 76, 77, 87, 88, 89, 78, 79, 80, 81, 82, 83, 84, 85, 86, 90, 91, 92, 93, 94, 95, 96, 97] (by decide +kernel) (by decide +kernel)
set_option maxRecDepth 20000 in
theorem gX7_leastHarmed_X7_harmDone : GoodIn wsX7_leastHarmed (wsV RX7 196 RX7 yX7_harmDone wsX7_harmDone) := goodIn_app (goodIn_of _ (by decide +kernel)) ggX7_leastHarmed_X7_harmDone
theorem dX7_leastHarmed_0 : decode cX7_leastHarmed 0 = .ok (.iconst 0, 1) := by decide +kernel
theorem dX7_leastHarmed_1 : decode cX7_leastHarmed 1 = .ok (.istore_n 2, 1) := by decide +kernel
theorem dX7_leastHarmed_2 : decode cX7_leastHarmed 2 = .ok (.bipush (-9), 2) := by decide +kernel
theorem dX7_leastHarmed_4 : decode cX7_leastHarmed 4 = .ok (.istore_n 3, 1) := by decide +kernel
theorem dX7_leastHarmed_5 : decode cX7_leastHarmed 5 = .ok (.iconst 0, 1) := by decide +kernel
theorem dX7_leastHarmed_6 : decode cX7_leastHarmed 6 = .ok (.istore 4, 2) := by decide +kernel
theorem dX7_leastHarmed_8 : decode cX7_leastHarmed 8 = .ok (.iload 4, 2) := by decide +kernel
theorem dX7_leastHarmed_10 : decode cX7_leastHarmed 10 = .ok (.aload_n 0, 1) := by decide +kernel
theorem dX7_leastHarmed_11 : decode cX7_leastHarmed 11 = .ok (.getfield 51, 3) := by decide +kernel
theorem dX7_leastHarmed_14 : decode cX7_leastHarmed 14 = .ok (.getfield 141, 3) := by decide +kernel
theorem dX7_leastHarmed_17 : decode cX7_leastHarmed 17 = .ok (.if_icmp .ge 36, 3) := by decide +kernel
theorem dX7_leastHarmed_20 : decode cX7_leastHarmed 20 = .ok (.aload_n 0, 1) := by decide +kernel
theorem dX7_leastHarmed_21 : decode cX7_leastHarmed 21 = .ok (.iload 4, 2) := by decide +kernel
theorem dX7_leastHarmed_23 : decode cX7_leastHarmed 23 = .ok (.iload_n 1, 1) := by decide +kernel
theorem dX7_leastHarmed_24 : decode cX7_leastHarmed 24 = .ok (.invokevirtual 196, 3) := by decide +kernel
theorem dX7_leastHarmed_27 : decode cX7_leastHarmed 27 = .ok (.istore 5, 2) := by decide +kernel
theorem dX7_leastHarmed_29 : decode cX7_leastHarmed 29 = .ok (.iload_n 3, 1) := by decide +kernel
theorem dX7_leastHarmed_30 : decode cX7_leastHarmed 30 = .ok (.bipush (-9), 2) := by decide +kernel
theorem dX7_leastHarmed_32 : decode cX7_leastHarmed 32 = .ok (.if_icmp .eq 9, 3) := by decide +kernel
theorem dX7_leastHarmed_35 : decode cX7_leastHarmed 35 = .ok (.iload 5, 2) := by decide +kernel
theorem dX7_leastHarmed_37 : decode cX7_leastHarmed 37 = .ok (.iload_n 2, 1) := by decide +kernel
theorem dX7_leastHarmed_38 : decode cX7_leastHarmed 38 = .ok (.if_icmp .ge 9, 3) := by decide +kernel
theorem dX7_leastHarmed_41 : decode cX7_leastHarmed 41 = .ok (.iload 5, 2) := by decide +kernel
theorem dX7_leastHarmed_43 : decode cX7_leastHarmed 43 = .ok (.istore_n 2, 1) := by decide +kernel
theorem dX7_leastHarmed_44 : decode cX7_leastHarmed 44 = .ok (.iload 4, 2) := by decide +kernel
theorem dX7_leastHarmed_46 : decode cX7_leastHarmed 46 = .ok (.istore_n 3, 1) := by decide +kernel
theorem dX7_leastHarmed_47 : decode cX7_leastHarmed 47 = .ok (.iinc 4 1, 3) := by decide +kernel
theorem dX7_leastHarmed_50 : decode cX7_leastHarmed 50 = .ok (.goto (-42), 3) := by decide +kernel
theorem dX7_leastHarmed_53 : decode cX7_leastHarmed 53 = .ok (.iload_n 3, 1) := by decide +kernel
theorem dX7_leastHarmed_54 : decode cX7_leastHarmed 54 = .ok (.ireturn, 1) := by decide +kernel
set_option maxRecDepth 20000 in
theorem ggX7_holesOfAll_X0_allSeenIsSo : GoodIn wsX7_holesOfAll wsX0_allSeenIsSo := goodIn_r _ [9, 10, 11, 12, 13, 14, 15, 16, 17, 18, 19, 20, 21, 22, 23, 24, 25, 26, 27, 28, 29, 30, 31, 32, 33, 34, 35, 36, 37, 38, 39, 40, 41, 42, 43, 44, 45, 46, 47, 48, 49, 50, 51, 52, 53, 54, 55, 56, 57, 58, 59, 85, 86, 87, 88, 89, 90, 91, 92, 93, 94, 95, 76, 77, 78, 79, 80, 81, 82, 83, 84, 96, 97, 98, 99] (by decide +kernel) (by decide +kernel)
set_option maxRecDepth 20000 in
theorem gX7_holesOfAll_X0_allSeenIsSo : GoodIn wsX7_holesOfAll (wsV RX7 252 RX0 yX0_allSeenIsSo wsX0_allSeenIsSo) := goodIn_app (goodIn_of _ (by decide +kernel)) ggX7_holesOfAll_X0_allSeenIsSo
set_option maxRecDepth 20000 in
theorem ggX7_holesOfAll_X7_holeRate : GoodIn wsX7_holesOfAll wsX7_holeRate := goodIn_r _ [63, 1, 64, 65, 3, 2, 5, 6, 7, 8, 9, 10, 11, 12, 13, 14, 15, 16, 17, 18, 19, 20, 21, 22, 23, 24, 25, 26, 27, 28, 29, 30, 31, 32, 33, 34, 35, 36, 37, 38, 39, 40, 41, 42, 43, 44, 45, 46, 47, 48, 49, 50, 51, 52, 53, 54, 55, 56, 57, 58, 59, 66, 67, 68, 69, 70, 71, 72, 73, 74, 75, 85, 86, 87, 76, 77, 78, 79, 80, 81, 82, 83, 84, 88, 89, 90, 91, 92, 93, 94, 95, 96, 97, 98, 99] (by decide +kernel) (by decide +kernel)
set_option maxRecDepth 20000 in
theorem gX7_holesOfAll_X7_holeRate : GoodIn wsX7_holesOfAll (wsV RX7 207 RX7 yX7_holeRate wsX7_holeRate) := goodIn_app (goodIn_of _ (by decide +kernel)) ggX7_holesOfAll_X7_holeRate
theorem dX7_holesOfAll_0 : decode cX7_holesOfAll 0 = .ok (.aload_n 0, 1) := by decide +kernel
theorem dX7_holesOfAll_1 : decode cX7_holesOfAll 1 = .ok (.getfield 40, 3) := by decide +kernel
theorem dX7_holesOfAll_4 : decode cX7_holesOfAll 4 = .ok (.aload_n 0, 1) := by decide +kernel
theorem dX7_holesOfAll_5 : decode cX7_holesOfAll 5 = .ok (.getfield 33, 3) := by decide +kernel
theorem dX7_holesOfAll_8 : decode cX7_holesOfAll 8 = .ok (.invokevirtual 252, 3) := by decide +kernel
theorem dX7_holesOfAll_11 : decode cX7_holesOfAll 11 = .ok (.ifCond .eq 8, 3) := by decide +kernel
theorem dX7_holesOfAll_14 : decode cX7_holesOfAll 14 = .ok (.bipush 64, 2) := by decide +kernel
theorem dX7_holesOfAll_16 : decode cX7_holesOfAll 16 = .ok (.goto 4, 3) := by decide +kernel
theorem dX7_holesOfAll_19 : decode cX7_holesOfAll 19 = .ok (.iconst 0, 1) := by decide +kernel
theorem dX7_holesOfAll_20 : decode cX7_holesOfAll 20 = .ok (.istore_n 1, 1) := by decide +kernel
theorem dX7_holesOfAll_21 : decode cX7_holesOfAll 21 = .ok (.iconst 0, 1) := by decide +kernel
theorem dX7_holesOfAll_22 : decode cX7_holesOfAll 22 = .ok (.istore_n 2, 1) := by decide +kernel
theorem dX7_holesOfAll_23 : decode cX7_holesOfAll 23 = .ok (.iload_n 2, 1) := by decide +kernel
theorem dX7_holesOfAll_24 : decode cX7_holesOfAll 24 = .ok (.aload_n 0, 1) := by decide +kernel
theorem dX7_holesOfAll_25 : decode cX7_holesOfAll 25 = .ok (.getfield 51, 3) := by decide +kernel
theorem dX7_holesOfAll_28 : decode cX7_holesOfAll 28 = .ok (.getfield 141, 3) := by decide +kernel
theorem dX7_holesOfAll_31 : decode cX7_holesOfAll 31 = .ok (.if_icmp .ge 25, 3) := by decide +kernel
theorem dX7_holesOfAll_34 : decode cX7_holesOfAll 34 = .ok (.aload_n 0, 1) := by decide +kernel
theorem dX7_holesOfAll_35 : decode cX7_holesOfAll 35 = .ok (.iload_n 2, 1) := by decide +kernel
theorem dX7_holesOfAll_36 : decode cX7_holesOfAll 36 = .ok (.invokevirtual 207, 3) := by decide +kernel
theorem dX7_holesOfAll_39 : decode cX7_holesOfAll 39 = .ok (.bipush (-9), 2) := by decide +kernel
theorem dX7_holesOfAll_41 : decode cX7_holesOfAll 41 = .ok (.if_icmp .eq 9, 3) := by decide +kernel
theorem dX7_holesOfAll_44 : decode cX7_holesOfAll 44 = .ok (.iload_n 1, 1) := by decide +kernel
theorem dX7_holesOfAll_45 : decode cX7_holesOfAll 45 = .ok (.iconst 1, 1) := by decide +kernel
theorem dX7_holesOfAll_46 : decode cX7_holesOfAll 46 = .ok (.iload_n 2, 1) := by decide +kernel
theorem dX7_holesOfAll_47 : decode cX7_holesOfAll 47 = .ok (.ishl, 1) := by decide +kernel
theorem dX7_holesOfAll_48 : decode cX7_holesOfAll 48 = .ok (.ior, 1) := by decide +kernel
theorem dX7_holesOfAll_49 : decode cX7_holesOfAll 49 = .ok (.istore_n 1, 1) := by decide +kernel
theorem dX7_holesOfAll_50 : decode cX7_holesOfAll 50 = .ok (.iinc 2 1, 3) := by decide +kernel
theorem dX7_holesOfAll_53 : decode cX7_holesOfAll 53 = .ok (.goto (-30), 3) := by decide +kernel
theorem dX7_holesOfAll_56 : decode cX7_holesOfAll 56 = .ok (.iload_n 1, 1) := by decide +kernel
theorem dX7_holesOfAll_57 : decode cX7_holesOfAll 57 = .ok (.ireturn, 1) := by decide +kernel
set_option maxRecDepth 20000 in
theorem ggX7_holeRate_X0_allSeenIsSo : GoodIn wsX7_holeRate wsX0_allSeenIsSo := goodIn_r _ [10, 11, 12, 13, 14, 15, 16, 17, 18, 19, 20, 21, 22, 23, 24, 25, 26, 27, 28, 29, 30, 31, 32, 33, 34, 35, 36, 37, 38, 39, 40, 41, 42, 43, 44, 45, 46, 47, 48, 49, 50, 51, 52, 53, 54, 55, 56, 57, 58, 59, 60, 71, 72, 73, 83, 84, 85, 86, 87, 88, 89, 90, 74, 75, 76, 77, 78, 79, 80, 81, 82, 91, 92, 93, 94] (by decide +kernel) (by decide +kernel)
set_option maxRecDepth 20000 in
theorem gX7_holeRate_X0_allSeenIsSo : GoodIn wsX7_holeRate (wsV RX7 252 RX0 yX0_allSeenIsSo wsX0_allSeenIsSo) := goodIn_app (goodIn_of _ (by decide +kernel)) ggX7_holeRate_X0_allSeenIsSo
theorem dX7_holeRate_0 : decode cX7_holeRate 0 = .ok (.bipush (-9), 2) := by decide +kernel
theorem dX7_holeRate_2 : decode cX7_holeRate 2 = .ok (.istore_n 2, 1) := by decide +kernel
theorem dX7_holeRate_3 : decode cX7_holeRate 3 = .ok (.iconst 0, 1) := by decide +kernel
theorem dX7_holeRate_4 : decode cX7_holeRate 4 = .ok (.istore_n 3, 1) := by decide +kernel
theorem dX7_holeRate_5 : decode cX7_holeRate 5 = .ok (.iload_n 3, 1) := by decide +kernel
theorem dX7_holeRate_6 : decode cX7_holeRate 6 = .ok (.bipush 9, 2) := by decide +kernel
theorem dX7_holeRate_8 : decode cX7_holeRate 8 = .ok (.if_icmp .gt 57, 3) := by decide +kernel
theorem dX7_holeRate_11 : decode cX7_holeRate 11 = .ok (.iload_n 2, 1) := by decide +kernel
theorem dX7_holeRate_12 : decode cX7_holeRate 12 = .ok (.bipush (-9), 2) := by decide +kernel
theorem dX7_holeRate_14 : decode cX7_holeRate 14 = .ok (.if_icmp .ne 51, 3) := by decide +kernel
theorem dX7_holeRate_17 : decode cX7_holeRate 17 = .ok (.aload_n 0, 1) := by decide +kernel
theorem dX7_holeRate_18 : decode cX7_holeRate 18 = .ok (.getfield 40, 3) := by decide +kernel
theorem dX7_holeRate_21 : decode cX7_holeRate 21 = .ok (.getfield 179, 3) := by decide +kernel
theorem dX7_holeRate_24 : decode cX7_holeRate 24 = .ok (.getfield 91, 3) := by decide +kernel
theorem dX7_holeRate_27 : decode cX7_holeRate 27 = .ok (.iload_n 1, 1) := by decide +kernel
theorem dX7_holeRate_28 : decode cX7_holeRate 28 = .ok (.iload_n 3, 1) := by decide +kernel
theorem dX7_holeRate_29 : decode cX7_holeRate 29 = .ok (.iastore, 1) := by decide +kernel
theorem dX7_holeRate_30 : decode cX7_holeRate 30 = .ok (.iload_n 3, 1) := by decide +kernel
theorem dX7_holeRate_31 : decode cX7_holeRate 31 = .ok (.aload_n 0, 1) := by decide +kernel
theorem dX7_holeRate_32 : decode cX7_holeRate 32 = .ok (.getfield 51, 3) := by decide +kernel
theorem dX7_holeRate_35 : decode cX7_holeRate 35 = .ok (.getfield 91, 3) := by decide +kernel
theorem dX7_holeRate_38 : decode cX7_holeRate 38 = .ok (.iload_n 1, 1) := by decide +kernel
theorem dX7_holeRate_39 : decode cX7_holeRate 39 = .ok (.iaload, 1) := by decide +kernel
theorem dX7_holeRate_40 : decode cX7_holeRate 40 = .ok (.if_icmp .eq 19, 3) := by decide +kernel
theorem dX7_holeRate_43 : decode cX7_holeRate 43 = .ok (.aload_n 0, 1) := by decide +kernel
theorem dX7_holeRate_44 : decode cX7_holeRate 44 = .ok (.getfield 40, 3) := by decide +kernel
theorem dX7_holeRate_47 : decode cX7_holeRate 47 = .ok (.aload_n 0, 1) := by decide +kernel
theorem dX7_holeRate_48 : decode cX7_holeRate 48 = .ok (.getfield 33, 3) := by decide +kernel
theorem dX7_holeRate_51 : decode cX7_holeRate 51 = .ok (.invokevirtual 252, 3) := by decide +kernel
theorem dX7_holeRate_54 : decode cX7_holeRate 54 = .ok (.ifCond .eq 5, 3) := by decide +kernel
theorem dX7_holeRate_57 : decode cX7_holeRate 57 = .ok (.iload_n 3, 1) := by decide +kernel
theorem dX7_holeRate_58 : decode cX7_holeRate 58 = .ok (.istore_n 2, 1) := by decide +kernel
theorem dX7_holeRate_59 : decode cX7_holeRate 59 = .ok (.iinc 3 1, 3) := by decide +kernel
theorem dX7_holeRate_62 : decode cX7_holeRate 62 = .ok (.goto (-57), 3) := by decide +kernel
theorem dX7_holeRate_65 : decode cX7_holeRate 65 = .ok (.aload_n 0, 1) := by decide +kernel
theorem dX7_holeRate_66 : decode cX7_holeRate 66 = .ok (.getfield 40, 3) := by decide +kernel
theorem dX7_holeRate_69 : decode cX7_holeRate 69 = .ok (.getfield 179, 3) := by decide +kernel
theorem dX7_holeRate_72 : decode cX7_holeRate 72 = .ok (.getfield 91, 3) := by decide +kernel
theorem dX7_holeRate_75 : decode cX7_holeRate 75 = .ok (.iload_n 1, 1) := by decide +kernel
theorem dX7_holeRate_76 : decode cX7_holeRate 76 = .ok (.aload_n 0, 1) := by decide +kernel
theorem dX7_holeRate_77 : decode cX7_holeRate 77 = .ok (.getfield 51, 3) := by decide +kernel
theorem dX7_holeRate_80 : decode cX7_holeRate 80 = .ok (.getfield 91, 3) := by decide +kernel
theorem dX7_holeRate_83 : decode cX7_holeRate 83 = .ok (.iload_n 1, 1) := by decide +kernel
theorem dX7_holeRate_84 : decode cX7_holeRate 84 = .ok (.iaload, 1) := by decide +kernel
theorem dX7_holeRate_85 : decode cX7_holeRate 85 = .ok (.iastore, 1) := by decide +kernel
theorem dX7_holeRate_86 : decode cX7_holeRate 86 = .ok (.iload_n 2, 1) := by decide +kernel
theorem dX7_holeRate_87 : decode cX7_holeRate 87 = .ok (.ireturn, 1) := by decide +kernel
theorem dX7_markOfWall_0 : decode cX7_markOfWall 0 = .ok (.aload_n 0, 1) := by decide +kernel
theorem dX7_markOfWall_1 : decode cX7_markOfWall 1 = .ok (.dup, 1) := by decide +kernel
theorem dX7_markOfWall_2 : decode cX7_markOfWall 2 = .ok (.getfield 237, 3) := by decide +kernel
theorem dX7_markOfWall_5 : decode cX7_markOfWall 5 = .ok (.lconst 1, 1) := by decide +kernel
theorem dX7_markOfWall_6 : decode cX7_markOfWall 6 = .ok (.ladd, 1) := by decide +kernel
theorem dX7_markOfWall_7 : decode cX7_markOfWall 7 = .ok (.putfield 237, 3) := by decide +kernel
theorem dX7_markOfWall_10 : decode cX7_markOfWall 10 = .ok (.aload_n 0, 1) := by decide +kernel
theorem dX7_markOfWall_11 : decode cX7_markOfWall 11 = .ok (.getfield 26, 3) := by decide +kernel
theorem dX7_markOfWall_14 : decode cX7_markOfWall 14 = .ok (.getfield 87, 3) := by decide +kernel
theorem dX7_markOfWall_17 : decode cX7_markOfWall 17 = .ok (.iload_n 1, 1) := by decide +kernel
theorem dX7_markOfWall_18 : decode cX7_markOfWall 18 = .ok (.iaload, 1) := by decide +kernel
theorem dX7_markOfWall_19 : decode cX7_markOfWall 19 = .ok (.ireturn, 1) := by decide +kernel
set_option maxRecDepth 20000 in
theorem ggX7_markOfFin_X7_markOfWall : GoodIn wsX7_markOfFin wsX7_markOfWall := goodIn_r _ [9, 1, 10, 11, 12, 13, 14, 15, 16, 17, 18, 19, 20, 21, 31, 32, 33, 34, 35, 36, 37, 38] (by decide +kernel) (by decide +kernel)
set_option maxRecDepth 20000 in
theorem gX7_markOfFin_X7_markOfWall : GoodIn wsX7_markOfFin (wsV RX7 210 RX7 yX7_markOfWall wsX7_markOfWall) := goodIn_app (goodIn_of _ (by decide +kernel)) ggX7_markOfFin_X7_markOfWall
theorem dX7_markOfFin_0 : decode cX7_markOfFin 0 = .ok (.aload_n 0, 1) := by decide +kernel
theorem dX7_markOfFin_1 : decode cX7_markOfFin 1 = .ok (.dup, 1) := by decide +kernel
theorem dX7_markOfFin_2 : decode cX7_markOfFin 2 = .ok (.getfield 237, 3) := by decide +kernel
theorem dX7_markOfFin_5 : decode cX7_markOfFin 5 = .ok (.ldc2_w 256, 3) := by decide +kernel
theorem dX7_markOfFin_8 : decode cX7_markOfFin 8 = .ok (.ladd, 1) := by decide +kernel
theorem dX7_markOfFin_9 : decode cX7_markOfFin 9 = .ok (.putfield 237, 3) := by decide +kernel
theorem dX7_markOfFin_12 : decode cX7_markOfFin 12 = .ok (.aload_n 0, 1) := by decide +kernel
theorem dX7_markOfFin_13 : decode cX7_markOfFin 13 = .ok (.iload_n 1, 1) := by decide +kernel
theorem dX7_markOfFin_14 : decode cX7_markOfFin 14 = .ok (.invokevirtual 210, 3) := by decide +kernel
theorem dX7_markOfFin_17 : decode cX7_markOfFin 17 = .ok (.aload_n 0, 1) := by decide +kernel
theorem dX7_markOfFin_18 : decode cX7_markOfFin 18 = .ok (.getfield 51, 3) := by decide +kernel
theorem dX7_markOfFin_21 : decode cX7_markOfFin 21 = .ok (.getfield 91, 3) := by decide +kernel
theorem dX7_markOfFin_24 : decode cX7_markOfFin 24 = .ok (.iload_n 1, 1) := by decide +kernel
theorem dX7_markOfFin_25 : decode cX7_markOfFin 25 = .ok (.iaload, 1) := by decide +kernel
theorem dX7_markOfFin_26 : decode cX7_markOfFin 26 = .ok (.iadd, 1) := by decide +kernel
theorem dX7_markOfFin_27 : decode cX7_markOfFin 27 = .ok (.ireturn, 1) := by decide +kernel
set_option maxRecDepth 20000 in
theorem ggX7_markOfBrick_X7_markOfWall : GoodIn wsX7_markOfBrick wsX7_markOfWall := goodIn_r _ [8, 1, 9, 10, 17, 18, 19, 20, 21, 22, 23, 24, 25, 26, 27, 28, 29, 30, 31, 32, 33, 34] (by decide +kernel) (by decide +kernel)
set_option maxRecDepth 20000 in
theorem gX7_markOfBrick_X7_markOfWall : GoodIn wsX7_markOfBrick (wsV RX7 210 RX7 yX7_markOfWall wsX7_markOfWall) := goodIn_app (goodIn_of _ (by decide +kernel)) ggX7_markOfBrick_X7_markOfWall
set_option maxRecDepth 20000 in
theorem ggX7_markOfBrick_X6_dark : GoodIn wsX7_markOfBrick wsX6_dark := goodIn_r _ [15, 16, 35, 36, 37, 38, 39, 40, 41, 42, 43] (by decide +kernel) (by decide +kernel)
set_option maxRecDepth 20000 in
theorem gX7_markOfBrick_X6_dark : GoodIn wsX7_markOfBrick (wsV RX7 100 RX6 yX6_dark wsX6_dark) := goodIn_app (goodIn_of _ (by decide +kernel)) ggX7_markOfBrick_X6_dark
theorem dX7_markOfBrick_0 : decode cX7_markOfBrick 0 = .ok (.aload_n 0, 1) := by decide +kernel
theorem dX7_markOfBrick_1 : decode cX7_markOfBrick 1 = .ok (.dup, 1) := by decide +kernel
theorem dX7_markOfBrick_2 : decode cX7_markOfBrick 2 = .ok (.getfield 237, 3) := by decide +kernel
theorem dX7_markOfBrick_5 : decode cX7_markOfBrick 5 = .ok (.ldc2_w 258, 3) := by decide +kernel
theorem dX7_markOfBrick_8 : decode cX7_markOfBrick 8 = .ok (.ladd, 1) := by decide +kernel
theorem dX7_markOfBrick_9 : decode cX7_markOfBrick 9 = .ok (.putfield 237, 3) := by decide +kernel
theorem dX7_markOfBrick_12 : decode cX7_markOfBrick 12 = .ok (.aload_n 0, 1) := by decide +kernel
theorem dX7_markOfBrick_13 : decode cX7_markOfBrick 13 = .ok (.iload_n 1, 1) := by decide +kernel
theorem dX7_markOfBrick_14 : decode cX7_markOfBrick 14 = .ok (.invokevirtual 210, 3) := by decide +kernel
theorem dX7_markOfBrick_17 : decode cX7_markOfBrick 17 = .ok (.aload_n 0, 1) := by decide +kernel
theorem dX7_markOfBrick_18 : decode cX7_markOfBrick 18 = .ok (.getfield 51, 3) := by decide +kernel
theorem dX7_markOfBrick_21 : decode cX7_markOfBrick 21 = .ok (.iload_n 1, 1) := by decide +kernel
theorem dX7_markOfBrick_22 : decode cX7_markOfBrick 22 = .ok (.invokevirtual 100, 3) := by decide +kernel
theorem dX7_markOfBrick_25 : decode cX7_markOfBrick 25 = .ok (.isub, 1) := by decide +kernel
theorem dX7_markOfBrick_26 : decode cX7_markOfBrick 26 = .ok (.ireturn, 1) := by decide +kernel
set_option maxRecDepth 20000 in
theorem ggX7_markOfFurnace_X7_markOfFin : GoodIn wsX7_markOfFurnace wsX7_markOfFin := goodIn_r _ [7, 1, 8, 9, 10, 11, 12, 13, 6, 14, 15, 16, 17, 18, 19, 20, 21, 22, 23, 24, 25, 26, 27, 28, 29, 30, 31, 32, 33, 34, 35, 36, 37, 38, 39, 40, 41, 42, 43] (by decide +kernel) (by decide +kernel)
set_option maxRecDepth 20000 in
theorem gX7_markOfFurnace_X7_markOfFin : GoodIn wsX7_markOfFurnace (wsV RX7 213 RX7 yX7_markOfFin wsX7_markOfFin) := goodIn_app (goodIn_of _ (by decide +kernel)) ggX7_markOfFurnace_X7_markOfFin
theorem dX7_markOfFurnace_0 : decode cX7_markOfFurnace 0 = .ok (.aload_n 0, 1) := by decide +kernel
theorem dX7_markOfFurnace_1 : decode cX7_markOfFurnace 1 = .ok (.dup, 1) := by decide +kernel
theorem dX7_markOfFurnace_2 : decode cX7_markOfFurnace 2 = .ok (.getfield 237, 3) := by decide +kernel
theorem dX7_markOfFurnace_5 : decode cX7_markOfFurnace 5 = .ok (.ldc2_w 260, 3) := by decide +kernel
theorem dX7_markOfFurnace_8 : decode cX7_markOfFurnace 8 = .ok (.ladd, 1) := by decide +kernel
theorem dX7_markOfFurnace_9 : decode cX7_markOfFurnace 9 = .ok (.putfield 237, 3) := by decide +kernel
theorem dX7_markOfFurnace_12 : decode cX7_markOfFurnace 12 = .ok (.aload_n 0, 1) := by decide +kernel
theorem dX7_markOfFurnace_13 : decode cX7_markOfFurnace 13 = .ok (.iload_n 1, 1) := by decide +kernel
theorem dX7_markOfFurnace_14 : decode cX7_markOfFurnace 14 = .ok (.invokevirtual 213, 3) := by decide +kernel
theorem dX7_markOfFurnace_17 : decode cX7_markOfFurnace 17 = .ok (.iconst 2, 1) := by decide +kernel
theorem dX7_markOfFurnace_18 : decode cX7_markOfFurnace 18 = .ok (.imul, 1) := by decide +kernel
theorem dX7_markOfFurnace_19 : decode cX7_markOfFurnace 19 = .ok (.ireturn, 1) := by decide +kernel
set_option maxRecDepth 20000 in
theorem ggX7_markOfWindow_X7_markOfBrick : GoodIn wsX7_markOfWindow wsX7_markOfBrick := goodIn_r _ [7, 1, 8, 9, 10, 11, 12, 6, 13, 14, 15, 16, 17, 18, 19, 20, 21, 22, 23, 24, 25, 26, 27, 28, 29, 30, 31, 32, 33, 34, 35, 36, 37, 38, 39, 40, 41, 42, 43, 44, 45, 46, 47, 48] (by decide +kernel) (by decide +kernel)
set_option maxRecDepth 20000 in
theorem gX7_markOfWindow_X7_markOfBrick : GoodIn wsX7_markOfWindow (wsV RX7 216 RX7 yX7_markOfBrick wsX7_markOfBrick) := goodIn_app (goodIn_of _ (by decide +kernel)) ggX7_markOfWindow_X7_markOfBrick
theorem dX7_markOfWindow_0 : decode cX7_markOfWindow 0 = .ok (.aload_n 0, 1) := by decide +kernel
theorem dX7_markOfWindow_1 : decode cX7_markOfWindow 1 = .ok (.dup, 1) := by decide +kernel
theorem dX7_markOfWindow_2 : decode cX7_markOfWindow 2 = .ok (.getfield 237, 3) := by decide +kernel
theorem dX7_markOfWindow_5 : decode cX7_markOfWindow 5 = .ok (.ldc2_w 262, 3) := by decide +kernel
theorem dX7_markOfWindow_8 : decode cX7_markOfWindow 8 = .ok (.ladd, 1) := by decide +kernel
theorem dX7_markOfWindow_9 : decode cX7_markOfWindow 9 = .ok (.putfield 237, 3) := by decide +kernel
theorem dX7_markOfWindow_12 : decode cX7_markOfWindow 12 = .ok (.aload_n 0, 1) := by decide +kernel
theorem dX7_markOfWindow_13 : decode cX7_markOfWindow 13 = .ok (.iload_n 1, 1) := by decide +kernel
theorem dX7_markOfWindow_14 : decode cX7_markOfWindow 14 = .ok (.invokevirtual 216, 3) := by decide +kernel
theorem dX7_markOfWindow_17 : decode cX7_markOfWindow 17 = .ok (.iload_n 1, 1) := by decide +kernel
theorem dX7_markOfWindow_18 : decode cX7_markOfWindow 18 = .ok (.iadd, 1) := by decide +kernel
theorem dX7_markOfWindow_19 : decode cX7_markOfWindow 19 = .ok (.ireturn, 1) := by decide +kernel
set_option maxRecDepth 20000 in
theorem ggX7_markOfHull_X7_markOfWall : GoodIn wsX7_markOfHull wsX7_markOfWall := goodIn_r _ [9, 1, 3, 10, 11, 12, 13, 14, 15, 16, 17, 18, 19, 20, 21, 22, 23, 24, 25, 26, 27, 28] (by decide +kernel) (by decide +kernel)
set_option maxRecDepth 20000 in
theorem gX7_markOfHull_X7_markOfWall : GoodIn wsX7_markOfHull (wsV RX7 210 RX7 yX7_markOfWall wsX7_markOfWall) := goodIn_app (goodIn_of _ (by decide +kernel)) ggX7_markOfHull_X7_markOfWall
theorem dX7_markOfHull_0 : decode cX7_markOfHull 0 = .ok (.aload_n 0, 1) := by decide +kernel
theorem dX7_markOfHull_1 : decode cX7_markOfHull 1 = .ok (.dup, 1) := by decide +kernel
theorem dX7_markOfHull_2 : decode cX7_markOfHull 2 = .ok (.getfield 237, 3) := by decide +kernel
theorem dX7_markOfHull_5 : decode cX7_markOfHull 5 = .ok (.ldc2_w 264, 3) := by decide +kernel
theorem dX7_markOfHull_8 : decode cX7_markOfHull 8 = .ok (.ladd, 1) := by decide +kernel
theorem dX7_markOfHull_9 : decode cX7_markOfHull 9 = .ok (.putfield 237, 3) := by decide +kernel
theorem dX7_markOfHull_12 : decode cX7_markOfHull 12 = .ok (.aload_n 0, 1) := by decide +kernel
theorem dX7_markOfHull_13 : decode cX7_markOfHull 13 = .ok (.iload_n 1, 1) := by decide +kernel
theorem dX7_markOfHull_14 : decode cX7_markOfHull 14 = .ok (.invokevirtual 210, 3) := by decide +kernel
theorem dX7_markOfHull_17 : decode cX7_markOfHull 17 = .ok (.aload_n 0, 1) := by decide +kernel
theorem dX7_markOfHull_18 : decode cX7_markOfHull 18 = .ok (.getfield 26, 3) := by decide +kernel
theorem dX7_markOfHull_21 : decode cX7_markOfHull 21 = .ok (.getfield 117, 3) := by decide +kernel
theorem dX7_markOfHull_24 : decode cX7_markOfHull 24 = .ok (.iadd, 1) := by decide +kernel
theorem dX7_markOfHull_25 : decode cX7_markOfHull 25 = .ok (.ireturn, 1) := by decide +kernel
end
section
theorem dX8_in_0 : decode cX8_in 0 = .ok (.lload_n 0, 1) := by decide +kernel
theorem dX8_in_1 : decode cX8_in 1 = .ok (.lload_n 2, 1) := by decide +kernel
theorem dX8_in_2 : decode cX8_in 2 = .ok (.lcmp, 1) := by decide +kernel
theorem dX8_in_3 : decode cX8_in 3 = .ok (.ifCond .lt 14, 3) := by decide +kernel
theorem dX8_in_6 : decode cX8_in 6 = .ok (.lload_n 0, 1) := by decide +kernel
theorem dX8_in_7 : decode cX8_in 7 = .ok (.lload 4, 2) := by decide +kernel
theorem dX8_in_9 : decode cX8_in 9 = .ok (.lcmp, 1) := by decide +kernel
theorem dX8_in_10 : decode cX8_in 10 = .ok (.ifCond .gt 7, 3) := by decide +kernel
theorem dX8_in_13 : decode cX8_in 13 = .ok (.iconst 1, 1) := by decide +kernel
theorem dX8_in_14 : decode cX8_in 14 = .ok (.goto 4, 3) := by decide +kernel
theorem dX8_in_17 : decode cX8_in 17 = .ok (.iconst 0, 1) := by decide +kernel
theorem dX8_in_18 : decode cX8_in 18 = .ok (.ireturn, 1) := by decide +kernel
theorem dX8_init_0 : decode cX8_init 0 = .ok (.aload_n 0, 1) := by decide +kernel
theorem dX8_init_1 : decode cX8_init 1 = .ok (.invokespecial 1, 3) := by decide +kernel
theorem dX8_init_4 : decode cX8_init 4 = .ok (.aload_n 0, 1) := by decide +kernel
theorem dX8_init_5 : decode cX8_init 5 = .ok (.sipush 250, 3) := by decide +kernel
theorem dX8_init_8 : decode cX8_init 8 = .ok (.newarray .int, 2) := by decide +kernel
theorem dX8_init_10 : decode cX8_init 10 = .ok (.putfield 7, 3) := by decide +kernel
theorem dX8_init_13 : decode cX8_init 13 = .ok (.aload_n 0, 1) := by decide +kernel
theorem dX8_init_14 : decode cX8_init 14 = .ok (.bipush 24, 2) := by decide +kernel
theorem dX8_init_16 : decode cX8_init 16 = .ok (.newarray .int, 2) := by decide +kernel
theorem dX8_init_18 : decode cX8_init 18 = .ok (.putfield 13, 3) := by decide +kernel
theorem dX8_init_21 : decode cX8_init 21 = .ok (.aload_n 0, 1) := by decide +kernel
theorem dX8_init_22 : decode cX8_init 22 = .ok (.bipush 36, 2) := by decide +kernel
theorem dX8_init_24 : decode cX8_init 24 = .ok (.newarray .int, 2) := by decide +kernel
theorem dX8_init_26 : decode cX8_init 26 = .ok (.putfield 16, 3) := by decide +kernel
theorem dX8_init_29 : decode cX8_init 29 = .ok (.aload_n 0, 1) := by decide +kernel
theorem dX8_init_30 : decode cX8_init 30 = .ok (.bipush 6, 2) := by decide +kernel
theorem dX8_init_32 : decode cX8_init 32 = .ok (.newarray .int, 2) := by decide +kernel
theorem dX8_init_34 : decode cX8_init 34 = .ok (.putfield 19, 3) := by decide +kernel
theorem dX8_init_37 : decode cX8_init 37 = .ok (.aload_n 0, 1) := by decide +kernel
theorem dX8_init_38 : decode cX8_init 38 = .ok (.bipush 6, 2) := by decide +kernel
theorem dX8_init_40 : decode cX8_init 40 = .ok (.newarray .int, 2) := by decide +kernel
theorem dX8_init_42 : decode cX8_init 42 = .ok (.putfield 22, 3) := by decide +kernel
theorem dX8_init_45 : decode cX8_init 45 = .ok (.aload_n 0, 1) := by decide +kernel
theorem dX8_init_46 : decode cX8_init 46 = .ok (.bipush 6, 2) := by decide +kernel
theorem dX8_init_48 : decode cX8_init 48 = .ok (.newarray .int, 2) := by decide +kernel
theorem dX8_init_50 : decode cX8_init 50 = .ok (.putfield 25, 3) := by decide +kernel
theorem dX8_init_53 : decode cX8_init 53 = .ok (.aload_n 0, 1) := by decide +kernel
theorem dX8_init_54 : decode cX8_init 54 = .ok (.bipush 6, 2) := by decide +kernel
theorem dX8_init_56 : decode cX8_init 56 = .ok (.newarray .int, 2) := by decide +kernel
theorem dX8_init_58 : decode cX8_init 58 = .ok (.putfield 28, 3) := by decide +kernel
theorem dX8_init_61 : decode cX8_init 61 = .ok (.aload_n 0, 1) := by decide +kernel
theorem dX8_init_62 : decode cX8_init 62 = .ok (.bipush 36, 2) := by decide +kernel
theorem dX8_init_64 : decode cX8_init 64 = .ok (.newarray .int, 2) := by decide +kernel
theorem dX8_init_66 : decode cX8_init 66 = .ok (.putfield 31, 3) := by decide +kernel
theorem dX8_init_69 : decode cX8_init 69 = .ok (.aload_n 0, 1) := by decide +kernel
theorem dX8_init_70 : decode cX8_init 70 = .ok (.bipush 6, 2) := by decide +kernel
theorem dX8_init_72 : decode cX8_init 72 = .ok (.newarray .int, 2) := by decide +kernel
theorem dX8_init_74 : decode cX8_init 74 = .ok (.putfield 34, 3) := by decide +kernel
theorem dX8_init_77 : decode cX8_init 77 = .ok (.aload_n 0, 1) := by decide +kernel
theorem dX8_init_78 : decode cX8_init 78 = .ok (.bipush 6, 2) := by decide +kernel
theorem dX8_init_80 : decode cX8_init 80 = .ok (.newarray .int, 2) := by decide +kernel
theorem dX8_init_82 : decode cX8_init 82 = .ok (.putfield 37, 3) := by decide +kernel
theorem dX8_init_85 : decode cX8_init 85 = .ok (.aload_n 0, 1) := by decide +kernel
theorem dX8_init_86 : decode cX8_init 86 = .ok (.bipush 10, 2) := by decide +kernel
theorem dX8_init_88 : decode cX8_init 88 = .ok (.newarray .int, 2) := by decide +kernel
theorem dX8_init_90 : decode cX8_init 90 = .ok (.putfield 40, 3) := by decide +kernel
theorem dX8_init_93 : decode cX8_init 93 = .ok (.aload_n 0, 1) := by decide +kernel
theorem dX8_init_94 : decode cX8_init 94 = .ok (.bipush 6, 2) := by decide +kernel
theorem dX8_init_96 : decode cX8_init 96 = .ok (.newarray .int, 2) := by decide +kernel
theorem dX8_init_98 : decode cX8_init 98 = .ok (.putfield 43, 3) := by decide +kernel
theorem dX8_init_101 : decode cX8_init 101 = .ok (.aload_n 0, 1) := by decide +kernel
theorem dX8_init_102 : decode cX8_init 102 = .ok (.bipush 6, 2) := by decide +kernel
theorem dX8_init_104 : decode cX8_init 104 = .ok (.newarray .int, 2) := by decide +kernel
theorem dX8_init_106 : decode cX8_init 106 = .ok (.putfield 46, 3) := by decide +kernel
theorem dX8_init_109 : decode cX8_init 109 = .ok (.aload_n 0, 1) := by decide +kernel
theorem dX8_init_110 : decode cX8_init 110 = .ok (.bipush 8, 2) := by decide +kernel
theorem dX8_init_112 : decode cX8_init 112 = .ok (.newarray .int, 2) := by decide +kernel
theorem dX8_init_114 : decode cX8_init 114 = .ok (.putfield 49, 3) := by decide +kernel
theorem dX8_init_117 : decode cX8_init 117 = .ok (.aload_n 0, 1) := by decide +kernel
theorem dX8_init_118 : decode cX8_init 118 = .ok (.bipush 8, 2) := by decide +kernel
theorem dX8_init_120 : decode cX8_init 120 = .ok (.newarray .int, 2) := by decide +kernel
theorem dX8_init_122 : decode cX8_init 122 = .ok (.putfield 52, 3) := by decide +kernel
theorem dX8_init_125 : decode cX8_init 125 = .ok (.aload_n 0, 1) := by decide +kernel
theorem dX8_init_126 : decode cX8_init 126 = .ok (.bipush 8, 2) := by decide +kernel
theorem dX8_init_128 : decode cX8_init 128 = .ok (.newarray .int, 2) := by decide +kernel
theorem dX8_init_130 : decode cX8_init 130 = .ok (.putfield 55, 3) := by decide +kernel
theorem dX8_init_133 : decode cX8_init 133 = .ok (.aload_n 0, 1) := by decide +kernel
theorem dX8_init_134 : decode cX8_init 134 = .ok (.bipush 42, 2) := by decide +kernel
theorem dX8_init_136 : decode cX8_init 136 = .ok (.newarray .int, 2) := by decide +kernel
theorem dX8_init_138 : decode cX8_init 138 = .ok (.putfield 58, 3) := by decide +kernel
theorem dX8_init_141 : decode cX8_init 141 = .ok (.aload_n 0, 1) := by decide +kernel
theorem dX8_init_142 : decode cX8_init 142 = .ok (.bipush 99, 2) := by decide +kernel
theorem dX8_init_144 : decode cX8_init 144 = .ok (.putfield 61, 3) := by decide +kernel
theorem dX8_init_147 : decode cX8_init 147 = .ok (.aload_n 0, 1) := by decide +kernel
theorem dX8_init_148 : decode cX8_init 148 = .ok (.getfield 58, 3) := by decide +kernel
theorem dX8_init_151 : decode cX8_init 151 = .ok (.iconst 0, 1) := by decide +kernel
theorem dX8_init_152 : decode cX8_init 152 = .ok (.iconst (-1), 1) := by decide +kernel
theorem dX8_init_153 : decode cX8_init 153 = .ok (.iastore, 1) := by decide +kernel
theorem dX8_init_154 : decode cX8_init 154 = .ok (.aload_n 0, 1) := by decide +kernel
theorem dX8_init_155 : decode cX8_init 155 = .ok (.getfield 58, 3) := by decide +kernel
theorem dX8_init_158 : decode cX8_init 158 = .ok (.bipush 21, 2) := by decide +kernel
theorem dX8_init_160 : decode cX8_init 160 = .ok (.iconst (-1), 1) := by decide +kernel
theorem dX8_init_161 : decode cX8_init 161 = .ok (.iastore, 1) := by decide +kernel
theorem dX8_init_162 : decode cX8_init 162 = .ok (.return_, 1) := by decide +kernel
set_option maxRecDepth 20000 in
theorem ggX8_type_X8_in : GoodIn wsX8_type wsX8_in := goodIn_r _ [8] (by decide +kernel) (by decide +kernel)
set_option maxRecDepth 20000 in
theorem gX8_type_X8_in : GoodIn wsX8_type (va_wsS RX8 67 yX8_in wsX8_in) := goodIn_app (goodIn_of _ (by decide +kernel)) ggX8_type_X8_in
theorem dX8_type_0 : decode cX8_type 0 = .ok (.iload_n 3, 1) := by decide +kernel
theorem dX8_type_1 : decode cX8_type 1 = .ok (.i2l, 1) := by decide +kernel
theorem dX8_type_2 : decode cX8_type 2 = .ok (.lconst 1, 1) := by decide +kernel
theorem dX8_type_3 : decode cX8_type 3 = .ok (.ldc2_w 65, 3) := by decide +kernel
theorem dX8_type_6 : decode cX8_type 6 = .ok (.invokestatic 67, 3) := by decide +kernel
theorem dX8_type_9 : decode cX8_type 9 = .ok (.ifCond .ne 5, 3) := by decide +kernel
theorem dX8_type_12 : decode cX8_type 12 = .ok (.iconst (-1), 1) := by decide +kernel
theorem dX8_type_13 : decode cX8_type 13 = .ok (.ireturn, 1) := by decide +kernel
theorem dX8_type_14 : decode cX8_type 14 = .ok (.aload_n 0, 1) := by decide +kernel
theorem dX8_type_15 : decode cX8_type 15 = .ok (.getfield 71, 3) := by decide +kernel
theorem dX8_type_18 : decode cX8_type 18 = .ok (.iload_n 3, 1) := by decide +kernel
theorem dX8_type_19 : decode cX8_type 19 = .ok (.iadd, 1) := by decide +kernel
theorem dX8_type_20 : decode cX8_type 20 = .ok (.sipush 250, 3) := by decide +kernel
theorem dX8_type_23 : decode cX8_type 23 = .ok (.if_icmp .le 6, 3) := by decide +kernel
theorem dX8_type_26 : decode cX8_type 26 = .ok (.bipush (-3), 2) := by decide +kernel
theorem dX8_type_28 : decode cX8_type 28 = .ok (.ireturn, 1) := by decide +kernel
theorem dX8_type_29 : decode cX8_type 29 = .ok (.iload_n 3, 1) := by decide +kernel
theorem dX8_type_30 : decode cX8_type 30 = .ok (.iconst 1, 1) := by decide +kernel
theorem dX8_type_31 : decode cX8_type 31 = .ok (.isub, 1) := by decide +kernel
theorem dX8_type_32 : decode cX8_type 32 = .ok (.istore 4, 2) := by decide +kernel
theorem dX8_type_34 : decode cX8_type 34 = .ok (.iload 4, 2) := by decide +kernel
theorem dX8_type_36 : decode cX8_type 36 = .ok (.ifCond .lt 40, 3) := by decide +kernel
theorem dX8_type_39 : decode cX8_type 39 = .ok (.aload_n 0, 1) := by decide +kernel
theorem dX8_type_40 : decode cX8_type 40 = .ok (.getfield 7, 3) := by decide +kernel
theorem dX8_type_43 : decode cX8_type 43 = .ok (.aload_n 0, 1) := by decide +kernel
theorem dX8_type_44 : decode cX8_type 44 = .ok (.getfield 71, 3) := by decide +kernel
theorem dX8_type_47 : decode cX8_type 47 = .ok (.lload_n 1, 1) := by decide +kernel
theorem dX8_type_48 : decode cX8_type 48 = .ok (.bipush 8, 2) := by decide +kernel
theorem dX8_type_50 : decode cX8_type 50 = .ok (.iload 4, 2) := by decide +kernel
theorem dX8_type_52 : decode cX8_type 52 = .ok (.imul, 1) := by decide +kernel
theorem dX8_type_53 : decode cX8_type 53 = .ok (.lshr, 1) := by decide +kernel
theorem dX8_type_54 : decode cX8_type 54 = .ok (.ldc2_w 74, 3) := by decide +kernel
theorem dX8_type_57 : decode cX8_type 57 = .ok (.land, 1) := by decide +kernel
theorem dX8_type_58 : decode cX8_type 58 = .ok (.l2i, 1) := by decide +kernel
theorem dX8_type_59 : decode cX8_type 59 = .ok (.iastore, 1) := by decide +kernel
theorem dX8_type_60 : decode cX8_type 60 = .ok (.aload_n 0, 1) := by decide +kernel
theorem dX8_type_61 : decode cX8_type 61 = .ok (.dup, 1) := by decide +kernel
theorem dX8_type_62 : decode cX8_type 62 = .ok (.getfield 71, 3) := by decide +kernel
theorem dX8_type_65 : decode cX8_type 65 = .ok (.iconst 1, 1) := by decide +kernel
theorem dX8_type_66 : decode cX8_type 66 = .ok (.iadd, 1) := by decide +kernel
theorem dX8_type_67 : decode cX8_type 67 = .ok (.putfield 71, 3) := by decide +kernel
theorem dX8_type_70 : decode cX8_type 70 = .ok (.iinc 4 (-1), 3) := by decide +kernel
theorem dX8_type_73 : decode cX8_type 73 = .ok (.goto (-39), 3) := by decide +kernel
theorem dX8_type_76 : decode cX8_type 76 = .ok (.aload_n 0, 1) := by decide +kernel
theorem dX8_type_77 : decode cX8_type 77 = .ok (.getfield 71, 3) := by decide +kernel
theorem dX8_type_80 : decode cX8_type 80 = .ok (.ireturn, 1) := by decide +kernel
theorem dX8_clear_0 : decode cX8_clear 0 = .ok (.aload_n 0, 1) := by decide +kernel
theorem dX8_clear_1 : decode cX8_clear 1 = .ok (.getfield 71, 3) := by decide +kernel
theorem dX8_clear_4 : decode cX8_clear 4 = .ok (.istore_n 1, 1) := by decide +kernel
theorem dX8_clear_5 : decode cX8_clear 5 = .ok (.aload_n 0, 1) := by decide +kernel
theorem dX8_clear_6 : decode cX8_clear 6 = .ok (.iconst 0, 1) := by decide +kernel
theorem dX8_clear_7 : decode cX8_clear 7 = .ok (.putfield 71, 3) := by decide +kernel
theorem dX8_clear_10 : decode cX8_clear 10 = .ok (.iload_n 1, 1) := by decide +kernel
theorem dX8_clear_11 : decode cX8_clear 11 = .ok (.ireturn, 1) := by decide +kernel
set_option maxRecDepth 20000 in
theorem ggX8_isLetter_X8_in : GoodIn wsX8_isLetter wsX8_in := goodIn_r _ [6] (by decide +kernel) (by decide +kernel)
set_option maxRecDepth 20000 in
theorem gX8_isLetter_X8_in : GoodIn wsX8_isLetter (va_wsS RX8 67 yX8_in wsX8_in) := goodIn_app (goodIn_of _ (by decide +kernel)) ggX8_isLetter_X8_in
theorem dX8_isLetter_0 : decode cX8_isLetter 0 = .ok (.iload_n 0, 1) := by decide +kernel
theorem dX8_isLetter_1 : decode cX8_isLetter 1 = .ok (.i2l, 1) := by decide +kernel
theorem dX8_isLetter_2 : decode cX8_isLetter 2 = .ok (.ldc2_w 76, 3) := by decide +kernel
theorem dX8_isLetter_5 : decode cX8_isLetter 5 = .ok (.ldc2_w 78, 3) := by decide +kernel
theorem dX8_isLetter_8 : decode cX8_isLetter 8 = .ok (.invokestatic 67, 3) := by decide +kernel
theorem dX8_isLetter_11 : decode cX8_isLetter 11 = .ok (.ireturn, 1) := by decide +kernel
set_option maxRecDepth 20000 in
theorem ggX8_isFigure_X8_in : GoodIn wsX8_isFigure wsX8_in := goodIn_r _ [6] (by decide +kernel) (by decide +kernel)
set_option maxRecDepth 20000 in
theorem gX8_isFigure_X8_in : GoodIn wsX8_isFigure (va_wsS RX8 67 yX8_in wsX8_in) := goodIn_app (goodIn_of _ (by decide +kernel)) ggX8_isFigure_X8_in
theorem dX8_isFigure_0 : decode cX8_isFigure 0 = .ok (.iload_n 0, 1) := by decide +kernel
theorem dX8_isFigure_1 : decode cX8_isFigure 1 = .ok (.i2l, 1) := by decide +kernel
theorem dX8_isFigure_2 : decode cX8_isFigure 2 = .ok (.ldc2_w 80, 3) := by decide +kernel
theorem dX8_isFigure_5 : decode cX8_isFigure 5 = .ok (.ldc2_w 82, 3) := by decide +kernel
theorem dX8_isFigure_8 : decode cX8_isFigure 8 = .ok (.invokestatic 67, 3) := by decide +kernel
theorem dX8_isFigure_11 : decode cX8_isFigure 11 = .ok (.ireturn, 1) := by decide +kernel
set_option maxRecDepth 20000 in
theorem ggX8_readWord_X8_isLetter : GoodIn wsX8_readWord wsX8_isLetter := goodIn_r _ [16, 17, 18, 19, 20, 15, 21] (by decide +kernel) (by decide +kernel)
set_option maxRecDepth 20000 in
theorem gX8_readWord_X8_isLetter : GoodIn wsX8_readWord (va_wsS RX8 87 yX8_isLetter wsX8_isLetter) := goodIn_app (goodIn_of _ (by decide +kernel)) ggX8_readWord_X8_isLetter
theorem dX8_readWord_0 : decode cX8_readWord 0 = .ok (.lconst 0, 1) := by decide +kernel
theorem dX8_readWord_1 : decode cX8_readWord 1 = .ok (.lstore_n 1, 1) := by decide +kernel
theorem dX8_readWord_2 : decode cX8_readWord 2 = .ok (.aload_n 0, 1) := by decide +kernel
theorem dX8_readWord_3 : decode cX8_readWord 3 = .ok (.getfield 84, 3) := by decide +kernel
theorem dX8_readWord_6 : decode cX8_readWord 6 = .ok (.aload_n 0, 1) := by decide +kernel
theorem dX8_readWord_7 : decode cX8_readWord 7 = .ok (.getfield 71, 3) := by decide +kernel
theorem dX8_readWord_10 : decode cX8_readWord 10 = .ok (.if_icmp .ge 68, 3) := by decide +kernel
theorem dX8_readWord_13 : decode cX8_readWord 13 = .ok (.aload_n 0, 1) := by decide +kernel
theorem dX8_readWord_14 : decode cX8_readWord 14 = .ok (.getfield 7, 3) := by decide +kernel
theorem dX8_readWord_17 : decode cX8_readWord 17 = .ok (.aload_n 0, 1) := by decide +kernel
theorem dX8_readWord_18 : decode cX8_readWord 18 = .ok (.getfield 84, 3) := by decide +kernel
theorem dX8_readWord_21 : decode cX8_readWord 21 = .ok (.iaload, 1) := by decide +kernel
theorem dX8_readWord_22 : decode cX8_readWord 22 = .ok (.invokestatic 87, 3) := by decide +kernel
theorem dX8_readWord_25 : decode cX8_readWord 25 = .ok (.ifCond .eq 53, 3) := by decide +kernel
theorem dX8_readWord_28 : decode cX8_readWord 28 = .ok (.aload_n 0, 1) := by decide +kernel
theorem dX8_readWord_29 : decode cX8_readWord 29 = .ok (.getfield 84, 3) := by decide +kernel
theorem dX8_readWord_32 : decode cX8_readWord 32 = .ok (.aload_n 0, 1) := by decide +kernel
theorem dX8_readWord_33 : decode cX8_readWord 33 = .ok (.getfield 91, 3) := by decide +kernel
theorem dX8_readWord_36 : decode cX8_readWord 36 = .ok (.isub, 1) := by decide +kernel
theorem dX8_readWord_37 : decode cX8_readWord 37 = .ok (.bipush 6, 2) := by decide +kernel
theorem dX8_readWord_39 : decode cX8_readWord 39 = .ok (.if_icmp .le 9, 3) := by decide +kernel
theorem dX8_readWord_42 : decode cX8_readWord 42 = .ok (.ldc2_w 94, 3) := by decide +kernel
theorem dX8_readWord_45 : decode cX8_readWord 45 = .ok (.goto 19, 3) := by decide +kernel
theorem dX8_readWord_48 : decode cX8_readWord 48 = .ok (.lload_n 1, 1) := by decide +kernel
theorem dX8_readWord_49 : decode cX8_readWord 49 = .ok (.ldc2_w 96, 3) := by decide +kernel
theorem dX8_readWord_52 : decode cX8_readWord 52 = .ok (.lmul, 1) := by decide +kernel
theorem dX8_readWord_53 : decode cX8_readWord 53 = .ok (.aload_n 0, 1) := by decide +kernel
theorem dX8_readWord_54 : decode cX8_readWord 54 = .ok (.getfield 7, 3) := by decide +kernel
theorem dX8_readWord_57 : decode cX8_readWord 57 = .ok (.aload_n 0, 1) := by decide +kernel
theorem dX8_readWord_58 : decode cX8_readWord 58 = .ok (.getfield 84, 3) := by decide +kernel
theorem dX8_readWord_61 : decode cX8_readWord 61 = .ok (.iaload, 1) := by decide +kernel
theorem dX8_readWord_62 : decode cX8_readWord 62 = .ok (.i2l, 1) := by decide +kernel
theorem dX8_readWord_63 : decode cX8_readWord 63 = .ok (.ladd, 1) := by decide +kernel
theorem dX8_readWord_64 : decode cX8_readWord 64 = .ok (.lstore_n 1, 1) := by decide +kernel
theorem dX8_readWord_65 : decode cX8_readWord 65 = .ok (.aload_n 0, 1) := by decide +kernel
theorem dX8_readWord_66 : decode cX8_readWord 66 = .ok (.dup, 1) := by decide +kernel
theorem dX8_readWord_67 : decode cX8_readWord 67 = .ok (.getfield 84, 3) := by decide +kernel
theorem dX8_readWord_70 : decode cX8_readWord 70 = .ok (.iconst 1, 1) := by decide +kernel
theorem dX8_readWord_71 : decode cX8_readWord 71 = .ok (.iadd, 1) := by decide +kernel
theorem dX8_readWord_72 : decode cX8_readWord 72 = .ok (.putfield 84, 3) := by decide +kernel
theorem dX8_readWord_75 : decode cX8_readWord 75 = .ok (.goto (-73), 3) := by decide +kernel
theorem dX8_readWord_78 : decode cX8_readWord 78 = .ok (.aload_n 0, 1) := by decide +kernel
theorem dX8_readWord_79 : decode cX8_readWord 79 = .ok (.lload_n 1, 1) := by decide +kernel
theorem dX8_readWord_80 : decode cX8_readWord 80 = .ok (.ldc2_w 98, 3) := by decide +kernel
theorem dX8_readWord_83 : decode cX8_readWord 83 = .ok (.lcmp, 1) := by decide +kernel
theorem dX8_readWord_84 : decode cX8_readWord 84 = .ok (.ifCond .ne 7, 3) := by decide +kernel
theorem dX8_readWord_87 : decode cX8_readWord 87 = .ok (.iconst 0, 1) := by decide +kernel
theorem dX8_readWord_88 : decode cX8_readWord 88 = .ok (.goto 41, 3) := by decide +kernel
theorem dX8_readWord_91 : decode cX8_readWord 91 = .ok (.lload_n 1, 1) := by decide +kernel
theorem dX8_readWord_92 : decode cX8_readWord 92 = .ok (.ldc2_w 100, 3) := by decide +kernel
theorem dX8_readWord_95 : decode cX8_readWord 95 = .ok (.lcmp, 1) := by decide +kernel
theorem dX8_readWord_96 : decode cX8_readWord 96 = .ok (.ifCond .ne 7, 3) := by decide +kernel
theorem dX8_readWord_99 : decode cX8_readWord 99 = .ok (.iconst 1, 1) := by decide +kernel
theorem dX8_readWord_100 : decode cX8_readWord 100 = .ok (.goto 29, 3) := by decide +kernel
theorem dX8_readWord_103 : decode cX8_readWord 103 = .ok (.lload_n 1, 1) := by decide +kernel
theorem dX8_readWord_104 : decode cX8_readWord 104 = .ok (.ldc2_w 102, 3) := by decide +kernel
theorem dX8_readWord_107 : decode cX8_readWord 107 = .ok (.lcmp, 1) := by decide +kernel
theorem dX8_readWord_108 : decode cX8_readWord 108 = .ok (.ifCond .ne 7, 3) := by decide +kernel
theorem dX8_readWord_111 : decode cX8_readWord 111 = .ok (.iconst 2, 1) := by decide +kernel
theorem dX8_readWord_112 : decode cX8_readWord 112 = .ok (.goto 17, 3) := by decide +kernel
theorem dX8_readWord_115 : decode cX8_readWord 115 = .ok (.lload_n 1, 1) := by decide +kernel
theorem dX8_readWord_116 : decode cX8_readWord 116 = .ok (.ldc2_w 104, 3) := by decide +kernel
theorem dX8_readWord_119 : decode cX8_readWord 119 = .ok (.lcmp, 1) := by decide +kernel
theorem dX8_readWord_120 : decode cX8_readWord 120 = .ok (.ifCond .ne 7, 3) := by decide +kernel
theorem dX8_readWord_123 : decode cX8_readWord 123 = .ok (.iconst 3, 1) := by decide +kernel
theorem dX8_readWord_124 : decode cX8_readWord 124 = .ok (.goto 5, 3) := by decide +kernel
theorem dX8_readWord_127 : decode cX8_readWord 127 = .ok (.bipush (-9), 2) := by decide +kernel
theorem dX8_readWord_129 : decode cX8_readWord 129 = .ok (.putfield 106, 3) := by decide +kernel
theorem dX8_readWord_132 : decode cX8_readWord 132 = .ok (.aload_n 0, 1) := by decide +kernel
theorem dX8_readWord_133 : decode cX8_readWord 133 = .ok (.aload_n 0, 1) := by decide +kernel
theorem dX8_readWord_134 : decode cX8_readWord 134 = .ok (.getfield 106, 3) := by decide +kernel
theorem dX8_readWord_137 : decode cX8_readWord 137 = .ok (.bipush (-9), 2) := by decide +kernel
theorem dX8_readWord_139 : decode cX8_readWord 139 = .ok (.if_icmp .ne 7, 3) := by decide +kernel
theorem dX8_readWord_142 : decode cX8_readWord 142 = .ok (.iconst 4, 1) := by decide +kernel
theorem dX8_readWord_143 : decode cX8_readWord 143 = .ok (.goto 4, 3) := by decide +kernel
theorem dX8_readWord_146 : decode cX8_readWord 146 = .ok (.iconst 1, 1) := by decide +kernel
theorem dX8_readWord_147 : decode cX8_readWord 147 = .ok (.putfield 109, 3) := by decide +kernel
theorem dX8_readWord_150 : decode cX8_readWord 150 = .ok (.return_, 1) := by decide +kernel
set_option maxRecDepth 20000 in
theorem ggX8_readNumber_X8_isFigure : GoodIn wsX8_readNumber wsX8_isFigure := goodIn_r _ [10, 11, 12, 13, 14, 9, 15] (by decide +kernel) (by decide +kernel)
set_option maxRecDepth 20000 in
theorem gX8_readNumber_X8_isFigure : GoodIn wsX8_readNumber (va_wsS RX8 112 yX8_isFigure wsX8_isFigure) := goodIn_app (goodIn_of _ (by decide +kernel)) ggX8_readNumber_X8_isFigure
theorem dX8_readNumber_0 : decode cX8_readNumber 0 = .ok (.iconst 0, 1) := by decide +kernel
theorem dX8_readNumber_1 : decode cX8_readNumber 1 = .ok (.istore_n 1, 1) := by decide +kernel
theorem dX8_readNumber_2 : decode cX8_readNumber 2 = .ok (.aload_n 0, 1) := by decide +kernel
theorem dX8_readNumber_3 : decode cX8_readNumber 3 = .ok (.getfield 84, 3) := by decide +kernel
theorem dX8_readNumber_6 : decode cX8_readNumber 6 = .ok (.aload_n 0, 1) := by decide +kernel
theorem dX8_readNumber_7 : decode cX8_readNumber 7 = .ok (.getfield 71, 3) := by decide +kernel
theorem dX8_readNumber_10 : decode cX8_readNumber 10 = .ok (.if_icmp .ge 59, 3) := by decide +kernel
theorem dX8_readNumber_13 : decode cX8_readNumber 13 = .ok (.aload_n 0, 1) := by decide +kernel
theorem dX8_readNumber_14 : decode cX8_readNumber 14 = .ok (.getfield 7, 3) := by decide +kernel
theorem dX8_readNumber_17 : decode cX8_readNumber 17 = .ok (.aload_n 0, 1) := by decide +kernel
theorem dX8_readNumber_18 : decode cX8_readNumber 18 = .ok (.getfield 84, 3) := by decide +kernel
theorem dX8_readNumber_21 : decode cX8_readNumber 21 = .ok (.iaload, 1) := by decide +kernel
theorem dX8_readNumber_22 : decode cX8_readNumber 22 = .ok (.invokestatic 112, 3) := by decide +kernel
theorem dX8_readNumber_25 : decode cX8_readNumber 25 = .ok (.ifCond .eq 44, 3) := by decide +kernel
theorem dX8_readNumber_28 : decode cX8_readNumber 28 = .ok (.iload_n 1, 1) := by decide +kernel
theorem dX8_readNumber_29 : decode cX8_readNumber 29 = .ok (.bipush 99, 2) := by decide +kernel
theorem dX8_readNumber_31 : decode cX8_readNumber 31 = .ok (.if_icmp .le 7, 3) := by decide +kernel
theorem dX8_readNumber_34 : decode cX8_readNumber 34 = .ok (.iload_n 1, 1) := by decide +kernel
theorem dX8_readNumber_35 : decode cX8_readNumber 35 = .ok (.goto 20, 3) := by decide +kernel
theorem dX8_readNumber_38 : decode cX8_readNumber 38 = .ok (.bipush 10, 2) := by decide +kernel
theorem dX8_readNumber_40 : decode cX8_readNumber 40 = .ok (.iload_n 1, 1) := by decide +kernel
theorem dX8_readNumber_41 : decode cX8_readNumber 41 = .ok (.imul, 1) := by decide +kernel
theorem dX8_readNumber_42 : decode cX8_readNumber 42 = .ok (.aload_n 0, 1) := by decide +kernel
theorem dX8_readNumber_43 : decode cX8_readNumber 43 = .ok (.getfield 7, 3) := by decide +kernel
theorem dX8_readNumber_46 : decode cX8_readNumber 46 = .ok (.aload_n 0, 1) := by decide +kernel
theorem dX8_readNumber_47 : decode cX8_readNumber 47 = .ok (.getfield 84, 3) := by decide +kernel
theorem dX8_readNumber_50 : decode cX8_readNumber 50 = .ok (.iaload, 1) := by decide +kernel
theorem dX8_readNumber_51 : decode cX8_readNumber 51 = .ok (.iadd, 1) := by decide +kernel
theorem dX8_readNumber_52 : decode cX8_readNumber 52 = .ok (.bipush 48, 2) := by decide +kernel
theorem dX8_readNumber_54 : decode cX8_readNumber 54 = .ok (.isub, 1) := by decide +kernel
theorem dX8_readNumber_55 : decode cX8_readNumber 55 = .ok (.istore_n 1, 1) := by decide +kernel
theorem dX8_readNumber_56 : decode cX8_readNumber 56 = .ok (.aload_n 0, 1) := by decide +kernel
theorem dX8_readNumber_57 : decode cX8_readNumber 57 = .ok (.dup, 1) := by decide +kernel
theorem dX8_readNumber_58 : decode cX8_readNumber 58 = .ok (.getfield 84, 3) := by decide +kernel
theorem dX8_readNumber_61 : decode cX8_readNumber 61 = .ok (.iconst 1, 1) := by decide +kernel
theorem dX8_readNumber_62 : decode cX8_readNumber 62 = .ok (.iadd, 1) := by decide +kernel
theorem dX8_readNumber_63 : decode cX8_readNumber 63 = .ok (.putfield 84, 3) := by decide +kernel
theorem dX8_readNumber_66 : decode cX8_readNumber 66 = .ok (.goto (-64), 3) := by decide +kernel
theorem dX8_readNumber_69 : decode cX8_readNumber 69 = .ok (.aload_n 0, 1) := by decide +kernel
theorem dX8_readNumber_70 : decode cX8_readNumber 70 = .ok (.iload_n 1, 1) := by decide +kernel
theorem dX8_readNumber_71 : decode cX8_readNumber 71 = .ok (.bipush 99, 2) := by decide +kernel
theorem dX8_readNumber_73 : decode cX8_readNumber 73 = .ok (.if_icmp .gt 30, 3) := by decide +kernel
theorem dX8_readNumber_76 : decode cX8_readNumber 76 = .ok (.aload_n 0, 1) := by decide +kernel
theorem dX8_readNumber_77 : decode cX8_readNumber 77 = .ok (.getfield 84, 3) := by decide +kernel
theorem dX8_readNumber_80 : decode cX8_readNumber 80 = .ok (.aload_n 0, 1) := by decide +kernel
theorem dX8_readNumber_81 : decode cX8_readNumber 81 = .ok (.getfield 91, 3) := by decide +kernel
theorem dX8_readNumber_84 : decode cX8_readNumber 84 = .ok (.isub, 1) := by decide +kernel
theorem dX8_readNumber_85 : decode cX8_readNumber 85 = .ok (.iconst 1, 1) := by decide +kernel
theorem dX8_readNumber_86 : decode cX8_readNumber 86 = .ok (.if_icmp .le 21, 3) := by decide +kernel
theorem dX8_readNumber_89 : decode cX8_readNumber 89 = .ok (.aload_n 0, 1) := by decide +kernel
theorem dX8_readNumber_90 : decode cX8_readNumber 90 = .ok (.getfield 7, 3) := by decide +kernel
theorem dX8_readNumber_93 : decode cX8_readNumber 93 = .ok (.aload_n 0, 1) := by decide +kernel
theorem dX8_readNumber_94 : decode cX8_readNumber 94 = .ok (.getfield 91, 3) := by decide +kernel
theorem dX8_readNumber_97 : decode cX8_readNumber 97 = .ok (.iaload, 1) := by decide +kernel
theorem dX8_readNumber_98 : decode cX8_readNumber 98 = .ok (.bipush 48, 2) := by decide +kernel
theorem dX8_readNumber_100 : decode cX8_readNumber 100 = .ok (.if_icmp .ne 7, 3) := by decide +kernel
theorem dX8_readNumber_103 : decode cX8_readNumber 103 = .ok (.iconst 4, 1) := by decide +kernel
theorem dX8_readNumber_104 : decode cX8_readNumber 104 = .ok (.goto 4, 3) := by decide +kernel
theorem dX8_readNumber_107 : decode cX8_readNumber 107 = .ok (.iconst 2, 1) := by decide +kernel
theorem dX8_readNumber_108 : decode cX8_readNumber 108 = .ok (.putfield 109, 3) := by decide +kernel
theorem dX8_readNumber_111 : decode cX8_readNumber 111 = .ok (.aload_n 0, 1) := by decide +kernel
theorem dX8_readNumber_112 : decode cX8_readNumber 112 = .ok (.iload_n 1, 1) := by decide +kernel
theorem dX8_readNumber_113 : decode cX8_readNumber 113 = .ok (.putfield 106, 3) := by decide +kernel
theorem dX8_readNumber_116 : decode cX8_readNumber 116 = .ok (.return_, 1) := by decide +kernel
set_option maxRecDepth 20000 in
theorem ggX8_reads_X8_isLetter : GoodIn wsX8_reads wsX8_isLetter := goodIn_r _ [9, 10, 11, 12, 13, 8, 14] (by decide +kernel) (by decide +kernel)
set_option maxRecDepth 20000 in
theorem gX8_reads_X8_isLetter : GoodIn wsX8_reads (va_wsS RX8 87 yX8_isLetter wsX8_isLetter) := goodIn_app (goodIn_of _ (by decide +kernel)) ggX8_reads_X8_isLetter
set_option maxRecDepth 20000 in
theorem ggX8_reads_X8_readWord : GoodIn wsX8_reads wsX8_readWord := goodIn_r _ [18, 1, 2, 3, 4, 19, 20, 21, 22, 23, 24, 25, 5, 6, 7, 8, 9, 10, 11, 12, 13, 14, 35, 36, 37, 38, 39, 40, 41, 42, 43, 44, 45, 46, 47, 48, 49, 50, 51, 52, 53, 54, 55, 56, 57, 58, 59, 60, 61, 62, 63, 64, 65, 66, 67] (by decide +kernel) (by decide +kernel)
set_option maxRecDepth 20000 in
theorem gX8_reads_X8_readWord : GoodIn wsX8_reads (wsV RX8 115 RX8 yX8_readWord wsX8_readWord) := goodIn_app (goodIn_of _ (by decide +kernel)) ggX8_reads_X8_readWord
set_option maxRecDepth 20000 in
theorem ggX8_reads_X8_isFigure : GoodIn wsX8_reads wsX8_isFigure := goodIn_r _ [28, 29, 30, 12, 13, 8, 14] (by decide +kernel) (by decide +kernel)
set_option maxRecDepth 20000 in
theorem gX8_reads_X8_isFigure : GoodIn wsX8_reads (va_wsS RX8 112 yX8_isFigure wsX8_isFigure) := goodIn_app (goodIn_of _ (by decide +kernel)) ggX8_reads_X8_isFigure
set_option maxRecDepth 20000 in
theorem ggX8_reads_X8_readNumber : GoodIn wsX8_reads wsX8_readNumber := goodIn_r _ [34, 1, 2, 3, 4, 5, 25, 26, 27, 8, 28, 29, 30, 12, 13, 14, 35, 36, 37, 38, 39, 40, 41, 42, 43, 44, 45, 46, 47, 48, 49, 50, 51, 52, 53, 54, 55, 56, 57, 58, 59, 60, 61, 62, 63, 64, 65, 66, 67] (by decide +kernel) (by decide +kernel)
set_option maxRecDepth 20000 in
theorem gX8_reads_X8_readNumber : GoodIn wsX8_reads (wsV RX8 118 RX8 yX8_readNumber wsX8_readNumber) := goodIn_app (goodIn_of _ (by decide +kernel)) ggX8_reads_X8_readNumber
theorem dX8_reads_0 : decode cX8_reads 0 = .ok (.aload_n 0, 1) := by decide +kernel
theorem dX8_reads_1 : decode cX8_reads 1 = .ok (.getfield 84, 3) := by decide +kernel
theorem dX8_reads_4 : decode cX8_reads 4 = .ok (.aload_n 0, 1) := by decide +kernel
theorem dX8_reads_5 : decode cX8_reads 5 = .ok (.getfield 71, 3) := by decide +kernel
theorem dX8_reads_8 : decode cX8_reads 8 = .ok (.if_icmp .ge 30, 3) := by decide +kernel
theorem dX8_reads_11 : decode cX8_reads 11 = .ok (.aload_n 0, 1) := by decide +kernel
theorem dX8_reads_12 : decode cX8_reads 12 = .ok (.getfield 7, 3) := by decide +kernel
theorem dX8_reads_15 : decode cX8_reads 15 = .ok (.aload_n 0, 1) := by decide +kernel
theorem dX8_reads_16 : decode cX8_reads 16 = .ok (.getfield 84, 3) := by decide +kernel
theorem dX8_reads_19 : decode cX8_reads 19 = .ok (.iaload, 1) := by decide +kernel
theorem dX8_reads_20 : decode cX8_reads 20 = .ok (.bipush 32, 2) := by decide +kernel
theorem dX8_reads_22 : decode cX8_reads 22 = .ok (.if_icmp .ne 16, 3) := by decide +kernel
theorem dX8_reads_25 : decode cX8_reads 25 = .ok (.aload_n 0, 1) := by decide +kernel
theorem dX8_reads_26 : decode cX8_reads 26 = .ok (.dup, 1) := by decide +kernel
theorem dX8_reads_27 : decode cX8_reads 27 = .ok (.getfield 84, 3) := by decide +kernel
theorem dX8_reads_30 : decode cX8_reads 30 = .ok (.iconst 1, 1) := by decide +kernel
theorem dX8_reads_31 : decode cX8_reads 31 = .ok (.iadd, 1) := by decide +kernel
theorem dX8_reads_32 : decode cX8_reads 32 = .ok (.putfield 84, 3) := by decide +kernel
theorem dX8_reads_35 : decode cX8_reads 35 = .ok (.goto (-35), 3) := by decide +kernel
theorem dX8_reads_38 : decode cX8_reads 38 = .ok (.aload_n 0, 1) := by decide +kernel
theorem dX8_reads_39 : decode cX8_reads 39 = .ok (.aload_n 0, 1) := by decide +kernel
theorem dX8_reads_40 : decode cX8_reads 40 = .ok (.getfield 84, 3) := by decide +kernel
theorem dX8_reads_43 : decode cX8_reads 43 = .ok (.putfield 91, 3) := by decide +kernel
theorem dX8_reads_46 : decode cX8_reads 46 = .ok (.aload_n 0, 1) := by decide +kernel
theorem dX8_reads_47 : decode cX8_reads 47 = .ok (.getfield 84, 3) := by decide +kernel
theorem dX8_reads_50 : decode cX8_reads 50 = .ok (.aload_n 0, 1) := by decide +kernel
theorem dX8_reads_51 : decode cX8_reads 51 = .ok (.getfield 71, 3) := by decide +kernel
theorem dX8_reads_54 : decode cX8_reads 54 = .ok (.if_icmp .ne 11, 3) := by decide +kernel
theorem dX8_reads_57 : decode cX8_reads 57 = .ok (.aload_n 0, 1) := by decide +kernel
theorem dX8_reads_58 : decode cX8_reads 58 = .ok (.iconst 0, 1) := by decide +kernel
theorem dX8_reads_59 : decode cX8_reads 59 = .ok (.putfield 109, 3) := by decide +kernel
theorem dX8_reads_62 : decode cX8_reads 62 = .ok (.goto 92, 3) := by decide +kernel
theorem dX8_reads_65 : decode cX8_reads 65 = .ok (.aload_n 0, 1) := by decide +kernel
theorem dX8_reads_66 : decode cX8_reads 66 = .ok (.getfield 7, 3) := by decide +kernel
theorem dX8_reads_69 : decode cX8_reads 69 = .ok (.aload_n 0, 1) := by decide +kernel
theorem dX8_reads_70 : decode cX8_reads 70 = .ok (.getfield 84, 3) := by decide +kernel
theorem dX8_reads_73 : decode cX8_reads 73 = .ok (.iaload, 1) := by decide +kernel
theorem dX8_reads_74 : decode cX8_reads 74 = .ok (.invokestatic 87, 3) := by decide +kernel
theorem dX8_reads_77 : decode cX8_reads 77 = .ok (.ifCond .eq 10, 3) := by decide +kernel
theorem dX8_reads_80 : decode cX8_reads 80 = .ok (.aload_n 0, 1) := by decide +kernel
theorem dX8_reads_81 : decode cX8_reads 81 = .ok (.invokevirtual 115, 3) := by decide +kernel
theorem dX8_reads_84 : decode cX8_reads 84 = .ok (.goto 70, 3) := by decide +kernel
theorem dX8_reads_87 : decode cX8_reads 87 = .ok (.aload_n 0, 1) := by decide +kernel
theorem dX8_reads_88 : decode cX8_reads 88 = .ok (.getfield 7, 3) := by decide +kernel
theorem dX8_reads_91 : decode cX8_reads 91 = .ok (.aload_n 0, 1) := by decide +kernel
theorem dX8_reads_92 : decode cX8_reads 92 = .ok (.getfield 84, 3) := by decide +kernel
theorem dX8_reads_95 : decode cX8_reads 95 = .ok (.iaload, 1) := by decide +kernel
theorem dX8_reads_96 : decode cX8_reads 96 = .ok (.invokestatic 112, 3) := by decide +kernel
theorem dX8_reads_99 : decode cX8_reads 99 = .ok (.ifCond .eq 10, 3) := by decide +kernel
theorem dX8_reads_102 : decode cX8_reads 102 = .ok (.aload_n 0, 1) := by decide +kernel
theorem dX8_reads_103 : decode cX8_reads 103 = .ok (.invokevirtual 118, 3) := by decide +kernel
theorem dX8_reads_106 : decode cX8_reads 106 = .ok (.goto 48, 3) := by decide +kernel
theorem dX8_reads_109 : decode cX8_reads 109 = .ok (.aload_n 0, 1) := by decide +kernel
theorem dX8_reads_110 : decode cX8_reads 110 = .ok (.aload_n 0, 1) := by decide +kernel
theorem dX8_reads_111 : decode cX8_reads 111 = .ok (.getfield 7, 3) := by decide +kernel
theorem dX8_reads_114 : decode cX8_reads 114 = .ok (.aload_n 0, 1) := by decide +kernel
theorem dX8_reads_115 : decode cX8_reads 115 = .ok (.getfield 84, 3) := by decide +kernel
theorem dX8_reads_118 : decode cX8_reads 118 = .ok (.iaload, 1) := by decide +kernel
theorem dX8_reads_119 : decode cX8_reads 119 = .ok (.bipush 59, 2) := by decide +kernel
theorem dX8_reads_121 : decode cX8_reads 121 = .ok (.if_icmp .ne 7, 3) := by decide +kernel
theorem dX8_reads_124 : decode cX8_reads 124 = .ok (.iconst 3, 1) := by decide +kernel
theorem dX8_reads_125 : decode cX8_reads 125 = .ok (.goto 4, 3) := by decide +kernel
theorem dX8_reads_128 : decode cX8_reads 128 = .ok (.iconst 4, 1) := by decide +kernel
theorem dX8_reads_129 : decode cX8_reads 129 = .ok (.putfield 109, 3) := by decide +kernel
theorem dX8_reads_132 : decode cX8_reads 132 = .ok (.aload_n 0, 1) := by decide +kernel
theorem dX8_reads_133 : decode cX8_reads 133 = .ok (.dup, 1) := by decide +kernel
theorem dX8_reads_134 : decode cX8_reads 134 = .ok (.getfield 84, 3) := by decide +kernel
theorem dX8_reads_137 : decode cX8_reads 137 = .ok (.aload_n 0, 1) := by decide +kernel
theorem dX8_reads_138 : decode cX8_reads 138 = .ok (.getfield 109, 3) := by decide +kernel
theorem dX8_reads_141 : decode cX8_reads 141 = .ok (.iconst 3, 1) := by decide +kernel
theorem dX8_reads_142 : decode cX8_reads 142 = .ok (.if_icmp .ne 7, 3) := by decide +kernel
theorem dX8_reads_145 : decode cX8_reads 145 = .ok (.iconst 1, 1) := by decide +kernel
theorem dX8_reads_146 : decode cX8_reads 146 = .ok (.goto 4, 3) := by decide +kernel
theorem dX8_reads_149 : decode cX8_reads 149 = .ok (.iconst 0, 1) := by decide +kernel
theorem dX8_reads_150 : decode cX8_reads 150 = .ok (.iadd, 1) := by decide +kernel
theorem dX8_reads_151 : decode cX8_reads 151 = .ok (.putfield 84, 3) := by decide +kernel
theorem dX8_reads_154 : decode cX8_reads 154 = .ok (.return_, 1) := by decide +kernel
set_option maxRecDepth 20000 in
theorem ggX8_number_X8_reads : GoodIn wsX8_number wsX8_reads := goodIn_r _ [7, 8, 9, 10, 11, 1, 12, 13, 6, 14, 15, 16, 17, 18, 19, 20, 21, 22, 23, 24, 25, 26, 27, 28, 29, 2, 30, 31, 32, 33, 34, 35, 36, 37, 38, 39, 40, 41, 42, 43, 44, 45, 46, 47, 48, 49, 50, 51, 52, 53, 54, 55, 56, 57, 58, 59, 60, 61, 62, 63, 64, 65, 66, 67, 68, 69, 70, 71] (by decide +kernel) (by decide +kernel)
set_option maxRecDepth 20000 in
theorem gX8_number_X8_reads : GoodIn wsX8_number (wsV RX8 121 RX8 yX8_reads wsX8_reads) := goodIn_app (goodIn_of _ (by decide +kernel)) ggX8_number_X8_reads
set_option maxRecDepth 20000 in
theorem ggX8_number_X8_in : GoodIn wsX8_number wsX8_in := goodIn_r _ [19] (by decide +kernel) (by decide +kernel)
set_option maxRecDepth 20000 in
theorem gX8_number_X8_in : GoodIn wsX8_number (va_wsS RX8 67 yX8_in wsX8_in) := goodIn_app (goodIn_of _ (by decide +kernel)) ggX8_number_X8_in
theorem dX8_number_0 : decode cX8_number 0 = .ok (.aload_n 0, 1) := by decide +kernel
theorem dX8_number_1 : decode cX8_number 1 = .ok (.invokevirtual 121, 3) := by decide +kernel
theorem dX8_number_4 : decode cX8_number 4 = .ok (.aload_n 0, 1) := by decide +kernel
theorem dX8_number_5 : decode cX8_number 5 = .ok (.getfield 109, 3) := by decide +kernel
theorem dX8_number_8 : decode cX8_number 8 = .ok (.iconst 2, 1) := by decide +kernel
theorem dX8_number_9 : decode cX8_number 9 = .ok (.if_icmp .ne 25, 3) := by decide +kernel
theorem dX8_number_12 : decode cX8_number 12 = .ok (.aload_n 0, 1) := by decide +kernel
theorem dX8_number_13 : decode cX8_number 13 = .ok (.getfield 106, 3) := by decide +kernel
theorem dX8_number_16 : decode cX8_number 16 = .ok (.i2l, 1) := by decide +kernel
theorem dX8_number_17 : decode cX8_number 17 = .ok (.iload_n 1, 1) := by decide +kernel
theorem dX8_number_18 : decode cX8_number 18 = .ok (.i2l, 1) := by decide +kernel
theorem dX8_number_19 : decode cX8_number 19 = .ok (.iload_n 2, 1) := by decide +kernel
theorem dX8_number_20 : decode cX8_number 20 = .ok (.i2l, 1) := by decide +kernel
theorem dX8_number_21 : decode cX8_number 21 = .ok (.invokestatic 67, 3) := by decide +kernel
theorem dX8_number_24 : decode cX8_number 24 = .ok (.ifCond .eq 10, 3) := by decide +kernel
theorem dX8_number_27 : decode cX8_number 27 = .ok (.aload_n 0, 1) := by decide +kernel
theorem dX8_number_28 : decode cX8_number 28 = .ok (.getfield 106, 3) := by decide +kernel
theorem dX8_number_31 : decode cX8_number 31 = .ok (.goto 4, 3) := by decide +kernel
theorem dX8_number_34 : decode cX8_number 34 = .ok (.iconst (-1), 1) := by decide +kernel
theorem dX8_number_35 : decode cX8_number 35 = .ok (.ireturn, 1) := by decide +kernel
theorem dX8_seen_0 : decode cX8_seen 0 = .ok (.iconst 0, 1) := by decide +kernel
theorem dX8_seen_1 : decode cX8_seen 1 = .ok (.istore_n 3, 1) := by decide +kernel
theorem dX8_seen_2 : decode cX8_seen 2 = .ok (.iconst 0, 1) := by decide +kernel
theorem dX8_seen_3 : decode cX8_seen 3 = .ok (.istore 4, 2) := by decide +kernel
theorem dX8_seen_5 : decode cX8_seen 5 = .ok (.iload 4, 2) := by decide +kernel
theorem dX8_seen_7 : decode cX8_seen 7 = .ok (.bipush 6, 2) := by decide +kernel
theorem dX8_seen_9 : decode cX8_seen 9 = .ok (.if_icmp .ge 21, 3) := by decide +kernel
theorem dX8_seen_12 : decode cX8_seen 12 = .ok (.iload_n 3, 1) := by decide +kernel
theorem dX8_seen_13 : decode cX8_seen 13 = .ok (.aload_n 1, 1) := by decide +kernel
theorem dX8_seen_14 : decode cX8_seen 14 = .ok (.bipush 6, 2) := by decide +kernel
theorem dX8_seen_16 : decode cX8_seen 16 = .ok (.iload_n 2, 1) := by decide +kernel
theorem dX8_seen_17 : decode cX8_seen 17 = .ok (.imul, 1) := by decide +kernel
theorem dX8_seen_18 : decode cX8_seen 18 = .ok (.iload 4, 2) := by decide +kernel
theorem dX8_seen_20 : decode cX8_seen 20 = .ok (.iadd, 1) := by decide +kernel
theorem dX8_seen_21 : decode cX8_seen 21 = .ok (.iaload, 1) := by decide +kernel
theorem dX8_seen_22 : decode cX8_seen 22 = .ok (.iadd, 1) := by decide +kernel
theorem dX8_seen_23 : decode cX8_seen 23 = .ok (.istore_n 3, 1) := by decide +kernel
theorem dX8_seen_24 : decode cX8_seen 24 = .ok (.iinc 4 1, 3) := by decide +kernel
theorem dX8_seen_27 : decode cX8_seen 27 = .ok (.goto (-22), 3) := by decide +kernel
theorem dX8_seen_30 : decode cX8_seen 30 = .ok (.iload_n 3, 1) := by decide +kernel
theorem dX8_seen_31 : decode cX8_seen 31 = .ok (.ireturn, 1) := by decide +kernel
set_option maxRecDepth 20000 in
theorem ggX8_readWall_X8_number : GoodIn wsX8_readWall wsX8_number := goodIn_r _ [7, 8, 9, 10, 11, 12, 6, 13, 14, 15, 16, 17, 18, 19, 20, 21, 22, 23, 24, 25, 26, 27, 28, 29, 30, 31, 32, 33, 34, 35, 36, 37, 38, 39, 40, 41, 42, 43, 44, 45, 46, 47, 48, 49, 50, 51, 52, 53, 54, 55, 56, 57, 58, 59, 60, 61, 62, 63, 64, 65, 66, 67, 68, 69, 70, 71, 72, 73, 74, 75, 76, 77] (by decide +kernel) (by decide +kernel)
set_option maxRecDepth 20000 in
theorem gX8_readWall_X8_number : GoodIn wsX8_readWall (wsV RX8 124 RX8 yX8_number wsX8_number) := goodIn_app (goodIn_of _ (by decide +kernel)) ggX8_readWall_X8_number
theorem dX8_readWall_0 : decode cX8_readWall 0 = .ok (.aload_n 0, 1) := by decide +kernel
theorem dX8_readWall_1 : decode cX8_readWall 1 = .ok (.iconst 0, 1) := by decide +kernel
theorem dX8_readWall_2 : decode cX8_readWall 2 = .ok (.bipush 99, 2) := by decide +kernel
theorem dX8_readWall_4 : decode cX8_readWall 4 = .ok (.invokevirtual 124, 3) := by decide +kernel
theorem dX8_readWall_7 : decode cX8_readWall 7 = .ok (.istore_n 1, 1) := by decide +kernel
theorem dX8_readWall_8 : decode cX8_readWall 8 = .ok (.iload_n 1, 1) := by decide +kernel
theorem dX8_readWall_9 : decode cX8_readWall 9 = .ok (.ifCond .ge 7, 3) := by decide +kernel
theorem dX8_readWall_12 : decode cX8_readWall 12 = .ok (.iconst (-1), 1) := by decide +kernel
theorem dX8_readWall_13 : decode cX8_readWall 13 = .ok (.goto 10, 3) := by decide +kernel
theorem dX8_readWall_16 : decode cX8_readWall 16 = .ok (.aload_n 0, 1) := by decide +kernel
theorem dX8_readWall_17 : decode cX8_readWall 17 = .ok (.iconst 0, 1) := by decide +kernel
theorem dX8_readWall_18 : decode cX8_readWall 18 = .ok (.bipush 9, 2) := by decide +kernel
theorem dX8_readWall_20 : decode cX8_readWall 20 = .ok (.invokevirtual 124, 3) := by decide +kernel
theorem dX8_readWall_23 : decode cX8_readWall 23 = .ok (.istore_n 2, 1) := by decide +kernel
theorem dX8_readWall_24 : decode cX8_readWall 24 = .ok (.aload_n 0, 1) := by decide +kernel
theorem dX8_readWall_25 : decode cX8_readWall 25 = .ok (.getfield 13, 3) := by decide +kernel
theorem dX8_readWall_28 : decode cX8_readWall 28 = .ok (.aload_n 0, 1) := by decide +kernel
theorem dX8_readWall_29 : decode cX8_readWall 29 = .ok (.getfield 128, 3) := by decide +kernel
theorem dX8_readWall_32 : decode cX8_readWall 32 = .ok (.iload_n 1, 1) := by decide +kernel
theorem dX8_readWall_33 : decode cX8_readWall 33 = .ok (.iastore, 1) := by decide +kernel
theorem dX8_readWall_34 : decode cX8_readWall 34 = .ok (.aload_n 0, 1) := by decide +kernel
theorem dX8_readWall_35 : decode cX8_readWall 35 = .ok (.getfield 13, 3) := by decide +kernel
theorem dX8_readWall_38 : decode cX8_readWall 38 = .ok (.bipush 6, 2) := by decide +kernel
theorem dX8_readWall_40 : decode cX8_readWall 40 = .ok (.aload_n 0, 1) := by decide +kernel
theorem dX8_readWall_41 : decode cX8_readWall 41 = .ok (.getfield 128, 3) := by decide +kernel
theorem dX8_readWall_44 : decode cX8_readWall 44 = .ok (.iadd, 1) := by decide +kernel
theorem dX8_readWall_45 : decode cX8_readWall 45 = .ok (.iload_n 2, 1) := by decide +kernel
theorem dX8_readWall_46 : decode cX8_readWall 46 = .ok (.iastore, 1) := by decide +kernel
theorem dX8_readWall_47 : decode cX8_readWall 47 = .ok (.aload_n 0, 1) := by decide +kernel
theorem dX8_readWall_48 : decode cX8_readWall 48 = .ok (.getfield 13, 3) := by decide +kernel
theorem dX8_readWall_51 : decode cX8_readWall 51 = .ok (.bipush 12, 2) := by decide +kernel
theorem dX8_readWall_53 : decode cX8_readWall 53 = .ok (.aload_n 0, 1) := by decide +kernel
theorem dX8_readWall_54 : decode cX8_readWall 54 = .ok (.getfield 128, 3) := by decide +kernel
theorem dX8_readWall_57 : decode cX8_readWall 57 = .ok (.iadd, 1) := by decide +kernel
theorem dX8_readWall_58 : decode cX8_readWall 58 = .ok (.iconst 0, 1) := by decide +kernel
theorem dX8_readWall_59 : decode cX8_readWall 59 = .ok (.iastore, 1) := by decide +kernel
theorem dX8_readWall_60 : decode cX8_readWall 60 = .ok (.aload_n 0, 1) := by decide +kernel
theorem dX8_readWall_61 : decode cX8_readWall 61 = .ok (.getfield 13, 3) := by decide +kernel
theorem dX8_readWall_64 : decode cX8_readWall 64 = .ok (.bipush 18, 2) := by decide +kernel
theorem dX8_readWall_66 : decode cX8_readWall 66 = .ok (.aload_n 0, 1) := by decide +kernel
theorem dX8_readWall_67 : decode cX8_readWall 67 = .ok (.getfield 128, 3) := by decide +kernel
theorem dX8_readWall_70 : decode cX8_readWall 70 = .ok (.iadd, 1) := by decide +kernel
theorem dX8_readWall_71 : decode cX8_readWall 71 = .ok (.iconst 0, 1) := by decide +kernel
theorem dX8_readWall_72 : decode cX8_readWall 72 = .ok (.iastore, 1) := by decide +kernel
theorem dX8_readWall_73 : decode cX8_readWall 73 = .ok (.aload_n 0, 1) := by decide +kernel
theorem dX8_readWall_74 : decode cX8_readWall 74 = .ok (.dup, 1) := by decide +kernel
theorem dX8_readWall_75 : decode cX8_readWall 75 = .ok (.getfield 128, 3) := by decide +kernel
theorem dX8_readWall_78 : decode cX8_readWall 78 = .ok (.iload_n 2, 1) := by decide +kernel
theorem dX8_readWall_79 : decode cX8_readWall 79 = .ok (.ifCond .ge 7, 3) := by decide +kernel
theorem dX8_readWall_82 : decode cX8_readWall 82 = .ok (.iconst 0, 1) := by decide +kernel
theorem dX8_readWall_83 : decode cX8_readWall 83 = .ok (.goto 4, 3) := by decide +kernel
theorem dX8_readWall_86 : decode cX8_readWall 86 = .ok (.iconst 1, 1) := by decide +kernel
theorem dX8_readWall_87 : decode cX8_readWall 87 = .ok (.iadd, 1) := by decide +kernel
theorem dX8_readWall_88 : decode cX8_readWall 88 = .ok (.putfield 128, 3) := by decide +kernel
theorem dX8_readWall_91 : decode cX8_readWall 91 = .ok (.iload_n 2, 1) := by decide +kernel
theorem dX8_readWall_92 : decode cX8_readWall 92 = .ok (.ifCond .lt 7, 3) := by decide +kernel
theorem dX8_readWall_95 : decode cX8_readWall 95 = .ok (.iconst 1, 1) := by decide +kernel
theorem dX8_readWall_96 : decode cX8_readWall 96 = .ok (.goto 4, 3) := by decide +kernel
theorem dX8_readWall_99 : decode cX8_readWall 99 = .ok (.iconst 0, 1) := by decide +kernel
theorem dX8_readWall_100 : decode cX8_readWall 100 = .ok (.ireturn, 1) := by decide +kernel
set_option maxRecDepth 20000 in
theorem ggX8_readSees_X8_number : GoodIn wsX8_readSees wsX8_number := goodIn_r _ [7, 8, 9, 10, 11, 12, 6, 13, 14, 15, 16, 17, 18, 19, 20, 21, 22, 23, 24, 25, 26, 27, 28, 29, 30, 31, 32, 33, 34, 35, 36, 37, 38, 39, 40, 41, 42, 43, 44, 49, 50, 51, 52, 53, 54, 55, 56, 57, 58, 59, 60, 61, 62, 63, 64, 65, 66, 67, 68, 69, 70, 71, 72, 73, 74, 75, 76, 77, 78, 79, 80, 81] (by decide +kernel) (by decide +kernel)
set_option maxRecDepth 20000 in
theorem gX8_readSees_X8_number : GoodIn wsX8_readSees (wsV RX8 124 RX8 yX8_number wsX8_number) := goodIn_app (goodIn_of _ (by decide +kernel)) ggX8_readSees_X8_number
set_option maxRecDepth 20000 in
theorem ggX8_readSees_X8_seen : GoodIn wsX8_readSees wsX8_seen := goodIn_r _ [48] (by decide +kernel) (by decide +kernel)
set_option maxRecDepth 20000 in
theorem gX8_readSees_X8_seen : GoodIn wsX8_readSees (wsV RX8 131 RX8 yX8_seen wsX8_seen) := goodIn_app (goodIn_of _ (by decide +kernel)) ggX8_readSees_X8_seen
theorem dX8_readSees_0 : decode cX8_readSees 0 = .ok (.aload_n 0, 1) := by decide +kernel
theorem dX8_readSees_1 : decode cX8_readSees 1 = .ok (.iconst 0, 1) := by decide +kernel
theorem dX8_readSees_2 : decode cX8_readSees 2 = .ok (.aload_n 0, 1) := by decide +kernel
theorem dX8_readSees_3 : decode cX8_readSees 3 = .ok (.getfield 128, 3) := by decide +kernel
theorem dX8_readSees_6 : decode cX8_readSees 6 = .ok (.iconst 1, 1) := by decide +kernel
theorem dX8_readSees_7 : decode cX8_readSees 7 = .ok (.isub, 1) := by decide +kernel
theorem dX8_readSees_8 : decode cX8_readSees 8 = .ok (.invokevirtual 124, 3) := by decide +kernel
theorem dX8_readSees_11 : decode cX8_readSees 11 = .ok (.istore_n 1, 1) := by decide +kernel
theorem dX8_readSees_12 : decode cX8_readSees 12 = .ok (.iload_n 1, 1) := by decide +kernel
theorem dX8_readSees_13 : decode cX8_readSees 13 = .ok (.ifCond .ge 7, 3) := by decide +kernel
theorem dX8_readSees_16 : decode cX8_readSees 16 = .ok (.iconst (-1), 1) := by decide +kernel
theorem dX8_readSees_17 : decode cX8_readSees 17 = .ok (.goto 14, 3) := by decide +kernel
theorem dX8_readSees_20 : decode cX8_readSees 20 = .ok (.aload_n 0, 1) := by decide +kernel
theorem dX8_readSees_21 : decode cX8_readSees 21 = .ok (.iconst 0, 1) := by decide +kernel
theorem dX8_readSees_22 : decode cX8_readSees 22 = .ok (.aload_n 0, 1) := by decide +kernel
theorem dX8_readSees_23 : decode cX8_readSees 23 = .ok (.getfield 128, 3) := by decide +kernel
theorem dX8_readSees_26 : decode cX8_readSees 26 = .ok (.iconst 1, 1) := by decide +kernel
theorem dX8_readSees_27 : decode cX8_readSees 27 = .ok (.isub, 1) := by decide +kernel
theorem dX8_readSees_28 : decode cX8_readSees 28 = .ok (.invokevirtual 124, 3) := by decide +kernel
theorem dX8_readSees_31 : decode cX8_readSees 31 = .ok (.istore_n 2, 1) := by decide +kernel
theorem dX8_readSees_32 : decode cX8_readSees 32 = .ok (.iload_n 2, 1) := by decide +kernel
theorem dX8_readSees_33 : decode cX8_readSees 33 = .ok (.ifCond .lt 8, 3) := by decide +kernel
theorem dX8_readSees_36 : decode cX8_readSees 36 = .ok (.iload_n 2, 1) := by decide +kernel
theorem dX8_readSees_37 : decode cX8_readSees 37 = .ok (.iload_n 1, 1) := by decide +kernel
theorem dX8_readSees_38 : decode cX8_readSees 38 = .ok (.if_icmp .ne 5, 3) := by decide +kernel
theorem dX8_readSees_41 : decode cX8_readSees 41 = .ok (.iconst 0, 1) := by decide +kernel
theorem dX8_readSees_42 : decode cX8_readSees 42 = .ok (.ireturn, 1) := by decide +kernel
theorem dX8_readSees_43 : decode cX8_readSees 43 = .ok (.aload_n 0, 1) := by decide +kernel
theorem dX8_readSees_44 : decode cX8_readSees 44 = .ok (.aload_n 0, 1) := by decide +kernel
theorem dX8_readSees_45 : decode cX8_readSees 45 = .ok (.getfield 16, 3) := by decide +kernel
theorem dX8_readSees_48 : decode cX8_readSees 48 = .ok (.iload_n 1, 1) := by decide +kernel
theorem dX8_readSees_49 : decode cX8_readSees 49 = .ok (.invokevirtual 131, 3) := by decide +kernel
theorem dX8_readSees_52 : decode cX8_readSees 52 = .ok (.aload_n 0, 1) := by decide +kernel
theorem dX8_readSees_53 : decode cX8_readSees 53 = .ok (.aload_n 0, 1) := by decide +kernel
theorem dX8_readSees_54 : decode cX8_readSees 54 = .ok (.getfield 16, 3) := by decide +kernel
theorem dX8_readSees_57 : decode cX8_readSees 57 = .ok (.iload_n 2, 1) := by decide +kernel
theorem dX8_readSees_58 : decode cX8_readSees 58 = .ok (.invokevirtual 131, 3) := by decide +kernel
theorem dX8_readSees_61 : decode cX8_readSees 61 = .ok (.if_icmp .le 15, 3) := by decide +kernel
theorem dX8_readSees_64 : decode cX8_readSees 64 = .ok (.aload_n 0, 1) := by decide +kernel
theorem dX8_readSees_65 : decode cX8_readSees 65 = .ok (.aload_n 0, 1) := by decide +kernel
theorem dX8_readSees_66 : decode cX8_readSees 66 = .ok (.getfield 16, 3) := by decide +kernel
theorem dX8_readSees_69 : decode cX8_readSees 69 = .ok (.iload_n 1, 1) := by decide +kernel
theorem dX8_readSees_70 : decode cX8_readSees 70 = .ok (.invokevirtual 131, 3) := by decide +kernel
theorem dX8_readSees_73 : decode cX8_readSees 73 = .ok (.goto 12, 3) := by decide +kernel
theorem dX8_readSees_76 : decode cX8_readSees 76 = .ok (.aload_n 0, 1) := by decide +kernel
theorem dX8_readSees_77 : decode cX8_readSees 77 = .ok (.aload_n 0, 1) := by decide +kernel
theorem dX8_readSees_78 : decode cX8_readSees 78 = .ok (.getfield 16, 3) := by decide +kernel
theorem dX8_readSees_81 : decode cX8_readSees 81 = .ok (.iload_n 2, 1) := by decide +kernel
theorem dX8_readSees_82 : decode cX8_readSees 82 = .ok (.invokevirtual 131, 3) := by decide +kernel
theorem dX8_readSees_85 : decode cX8_readSees 85 = .ok (.istore_n 3, 1) := by decide +kernel
theorem dX8_readSees_86 : decode cX8_readSees 86 = .ok (.aload_n 0, 1) := by decide +kernel
theorem dX8_readSees_87 : decode cX8_readSees 87 = .ok (.iconst 1, 1) := by decide +kernel
theorem dX8_readSees_88 : decode cX8_readSees 88 = .ok (.bipush 10, 2) := by decide +kernel
theorem dX8_readSees_90 : decode cX8_readSees 90 = .ok (.iload_n 3, 1) := by decide +kernel
theorem dX8_readSees_91 : decode cX8_readSees 91 = .ok (.isub, 1) := by decide +kernel
theorem dX8_readSees_92 : decode cX8_readSees 92 = .ok (.invokevirtual 124, 3) := by decide +kernel
theorem dX8_readSees_95 : decode cX8_readSees 95 = .ok (.istore 4, 2) := by decide +kernel
theorem dX8_readSees_97 : decode cX8_readSees 97 = .ok (.aload_n 0, 1) := by decide +kernel
theorem dX8_readSees_98 : decode cX8_readSees 98 = .ok (.getfield 16, 3) := by decide +kernel
theorem dX8_readSees_101 : decode cX8_readSees 101 = .ok (.bipush 6, 2) := by decide +kernel
theorem dX8_readSees_103 : decode cX8_readSees 103 = .ok (.iload_n 1, 1) := by decide +kernel
theorem dX8_readSees_104 : decode cX8_readSees 104 = .ok (.imul, 1) := by decide +kernel
theorem dX8_readSees_105 : decode cX8_readSees 105 = .ok (.iload_n 2, 1) := by decide +kernel
theorem dX8_readSees_106 : decode cX8_readSees 106 = .ok (.iadd, 1) := by decide +kernel
theorem dX8_readSees_107 : decode cX8_readSees 107 = .ok (.dup2, 1) := by decide +kernel
theorem dX8_readSees_108 : decode cX8_readSees 108 = .ok (.iaload, 1) := by decide +kernel
theorem dX8_readSees_109 : decode cX8_readSees 109 = .ok (.iload 4, 2) := by decide +kernel
theorem dX8_readSees_111 : decode cX8_readSees 111 = .ok (.ifCond .ge 7, 3) := by decide +kernel
theorem dX8_readSees_114 : decode cX8_readSees 114 = .ok (.iconst 0, 1) := by decide +kernel
theorem dX8_readSees_115 : decode cX8_readSees 115 = .ok (.goto 5, 3) := by decide +kernel
theorem dX8_readSees_118 : decode cX8_readSees 118 = .ok (.iload 4, 2) := by decide +kernel
theorem dX8_readSees_120 : decode cX8_readSees 120 = .ok (.iadd, 1) := by decide +kernel
theorem dX8_readSees_121 : decode cX8_readSees 121 = .ok (.iastore, 1) := by decide +kernel
theorem dX8_readSees_122 : decode cX8_readSees 122 = .ok (.aload_n 0, 1) := by decide +kernel
theorem dX8_readSees_123 : decode cX8_readSees 123 = .ok (.getfield 16, 3) := by decide +kernel
theorem dX8_readSees_126 : decode cX8_readSees 126 = .ok (.bipush 6, 2) := by decide +kernel
theorem dX8_readSees_128 : decode cX8_readSees 128 = .ok (.iload_n 2, 1) := by decide +kernel
theorem dX8_readSees_129 : decode cX8_readSees 129 = .ok (.imul, 1) := by decide +kernel
theorem dX8_readSees_130 : decode cX8_readSees 130 = .ok (.iload_n 1, 1) := by decide +kernel
theorem dX8_readSees_131 : decode cX8_readSees 131 = .ok (.iadd, 1) := by decide +kernel
theorem dX8_readSees_132 : decode cX8_readSees 132 = .ok (.aload_n 0, 1) := by decide +kernel
theorem dX8_readSees_133 : decode cX8_readSees 133 = .ok (.getfield 16, 3) := by decide +kernel
theorem dX8_readSees_136 : decode cX8_readSees 136 = .ok (.bipush 6, 2) := by decide +kernel
theorem dX8_readSees_138 : decode cX8_readSees 138 = .ok (.iload_n 1, 1) := by decide +kernel
theorem dX8_readSees_139 : decode cX8_readSees 139 = .ok (.imul, 1) := by decide +kernel
theorem dX8_readSees_140 : decode cX8_readSees 140 = .ok (.iload_n 2, 1) := by decide +kernel
theorem dX8_readSees_141 : decode cX8_readSees 141 = .ok (.iadd, 1) := by decide +kernel
theorem dX8_readSees_142 : decode cX8_readSees 142 = .ok (.iaload, 1) := by decide +kernel
theorem dX8_readSees_143 : decode cX8_readSees 143 = .ok (.iastore, 1) := by decide +kernel
theorem dX8_readSees_144 : decode cX8_readSees 144 = .ok (.iload 4, 2) := by decide +kernel
theorem dX8_readSees_146 : decode cX8_readSees 146 = .ok (.ifCond .lt 7, 3) := by decide +kernel
theorem dX8_readSees_149 : decode cX8_readSees 149 = .ok (.iconst 1, 1) := by decide +kernel
theorem dX8_readSees_150 : decode cX8_readSees 150 = .ok (.goto 4, 3) := by decide +kernel
theorem dX8_readSees_153 : decode cX8_readSees 153 = .ok (.iconst 0, 1) := by decide +kernel
theorem dX8_readSees_154 : decode cX8_readSees 154 = .ok (.ireturn, 1) := by decide +kernel
set_option maxRecDepth 20000 in
theorem ggX8_readWork_X8_number : GoodIn wsX8_readWork wsX8_number := goodIn_r _ [7, 8, 9, 10, 11, 12, 6, 13, 14, 15, 16, 17, 18, 19, 20, 21, 22, 23, 24, 25, 26, 27, 28, 29, 30, 31, 32, 33, 34, 35, 36, 37, 38, 39, 40, 41, 42, 43, 44, 45, 46, 47, 48, 49, 50, 51, 52, 53, 54, 55, 56, 57, 58, 59, 60, 61, 62, 63, 64, 65, 66, 67, 68, 69, 70, 71, 72, 73, 74, 75, 76, 77] (by decide +kernel) (by decide +kernel)
set_option maxRecDepth 20000 in
theorem gX8_readWork_X8_number : GoodIn wsX8_readWork (wsV RX8 124 RX8 yX8_number wsX8_number) := goodIn_app (goodIn_of _ (by decide +kernel)) ggX8_readWork_X8_number
theorem dX8_readWork_0 : decode cX8_readWork 0 = .ok (.aload_n 0, 1) := by decide +kernel
theorem dX8_readWork_1 : decode cX8_readWork 1 = .ok (.iconst 0, 1) := by decide +kernel
theorem dX8_readWork_2 : decode cX8_readWork 2 = .ok (.aload_n 0, 1) := by decide +kernel
theorem dX8_readWork_3 : decode cX8_readWork 3 = .ok (.getfield 128, 3) := by decide +kernel
theorem dX8_readWork_6 : decode cX8_readWork 6 = .ok (.iconst 1, 1) := by decide +kernel
theorem dX8_readWork_7 : decode cX8_readWork 7 = .ok (.isub, 1) := by decide +kernel
theorem dX8_readWork_8 : decode cX8_readWork 8 = .ok (.invokevirtual 124, 3) := by decide +kernel
theorem dX8_readWork_11 : decode cX8_readWork 11 = .ok (.istore_n 1, 1) := by decide +kernel
theorem dX8_readWork_12 : decode cX8_readWork 12 = .ok (.iload_n 1, 1) := by decide +kernel
theorem dX8_readWork_13 : decode cX8_readWork 13 = .ok (.ifCond .ge 7, 3) := by decide +kernel
theorem dX8_readWork_16 : decode cX8_readWork 16 = .ok (.iconst (-1), 1) := by decide +kernel
theorem dX8_readWork_17 : decode cX8_readWork 17 = .ok (.goto 10, 3) := by decide +kernel
theorem dX8_readWork_20 : decode cX8_readWork 20 = .ok (.aload_n 0, 1) := by decide +kernel
theorem dX8_readWork_21 : decode cX8_readWork 21 = .ok (.iconst 0, 1) := by decide +kernel
theorem dX8_readWork_22 : decode cX8_readWork 22 = .ok (.bipush 20, 2) := by decide +kernel
theorem dX8_readWork_24 : decode cX8_readWork 24 = .ok (.invokevirtual 124, 3) := by decide +kernel
theorem dX8_readWork_27 : decode cX8_readWork 27 = .ok (.istore_n 2, 1) := by decide +kernel
theorem dX8_readWork_28 : decode cX8_readWork 28 = .ok (.iload_n 2, 1) := by decide +kernel
theorem dX8_readWork_29 : decode cX8_readWork 29 = .ok (.ifCond .ge 7, 3) := by decide +kernel
theorem dX8_readWork_32 : decode cX8_readWork 32 = .ok (.iconst (-1), 1) := by decide +kernel
theorem dX8_readWork_33 : decode cX8_readWork 33 = .ok (.goto 10, 3) := by decide +kernel
theorem dX8_readWork_36 : decode cX8_readWork 36 = .ok (.aload_n 0, 1) := by decide +kernel
theorem dX8_readWork_37 : decode cX8_readWork 37 = .ok (.iconst 0, 1) := by decide +kernel
theorem dX8_readWork_38 : decode cX8_readWork 38 = .ok (.bipush 15, 2) := by decide +kernel
theorem dX8_readWork_40 : decode cX8_readWork 40 = .ok (.invokevirtual 124, 3) := by decide +kernel
theorem dX8_readWork_43 : decode cX8_readWork 43 = .ok (.istore_n 3, 1) := by decide +kernel
theorem dX8_readWork_44 : decode cX8_readWork 44 = .ok (.iload_n 3, 1) := by decide +kernel
theorem dX8_readWork_45 : decode cX8_readWork 45 = .ok (.ifCond .ge 7, 3) := by decide +kernel
theorem dX8_readWork_48 : decode cX8_readWork 48 = .ok (.iconst (-1), 1) := by decide +kernel
theorem dX8_readWork_49 : decode cX8_readWork 49 = .ok (.goto 10, 3) := by decide +kernel
theorem dX8_readWork_52 : decode cX8_readWork 52 = .ok (.aload_n 0, 1) := by decide +kernel
theorem dX8_readWork_53 : decode cX8_readWork 53 = .ok (.iconst 0, 1) := by decide +kernel
theorem dX8_readWork_54 : decode cX8_readWork 54 = .ok (.bipush 15, 2) := by decide +kernel
theorem dX8_readWork_56 : decode cX8_readWork 56 = .ok (.invokevirtual 124, 3) := by decide +kernel
theorem dX8_readWork_59 : decode cX8_readWork 59 = .ok (.istore 4, 2) := by decide +kernel
theorem dX8_readWork_61 : decode cX8_readWork 61 = .ok (.iload 4, 2) := by decide +kernel
theorem dX8_readWork_63 : decode cX8_readWork 63 = .ok (.ifCond .lt 29, 3) := by decide +kernel
theorem dX8_readWork_66 : decode cX8_readWork 66 = .ok (.aload_n 0, 1) := by decide +kernel
theorem dX8_readWork_67 : decode cX8_readWork 67 = .ok (.getfield 13, 3) := by decide +kernel
theorem dX8_readWork_70 : decode cX8_readWork 70 = .ok (.bipush 12, 2) := by decide +kernel
theorem dX8_readWork_72 : decode cX8_readWork 72 = .ok (.iload_n 1, 1) := by decide +kernel
theorem dX8_readWork_73 : decode cX8_readWork 73 = .ok (.iadd, 1) := by decide +kernel
theorem dX8_readWork_74 : decode cX8_readWork 74 = .ok (.iload_n 2, 1) := by decide +kernel
theorem dX8_readWork_75 : decode cX8_readWork 75 = .ok (.iastore, 1) := by decide +kernel
theorem dX8_readWork_76 : decode cX8_readWork 76 = .ok (.aload_n 0, 1) := by decide +kernel
theorem dX8_readWork_77 : decode cX8_readWork 77 = .ok (.getfield 13, 3) := by decide +kernel
theorem dX8_readWork_80 : decode cX8_readWork 80 = .ok (.bipush 18, 2) := by decide +kernel
theorem dX8_readWork_82 : decode cX8_readWork 82 = .ok (.iload_n 1, 1) := by decide +kernel
theorem dX8_readWork_83 : decode cX8_readWork 83 = .ok (.iadd, 1) := by decide +kernel
theorem dX8_readWork_84 : decode cX8_readWork 84 = .ok (.iload_n 3, 1) := by decide +kernel
theorem dX8_readWork_85 : decode cX8_readWork 85 = .ok (.bipush 16, 2) := by decide +kernel
theorem dX8_readWork_87 : decode cX8_readWork 87 = .ok (.iload 4, 2) := by decide +kernel
theorem dX8_readWork_89 : decode cX8_readWork 89 = .ok (.imul, 1) := by decide +kernel
theorem dX8_readWork_90 : decode cX8_readWork 90 = .ok (.iadd, 1) := by decide +kernel
theorem dX8_readWork_91 : decode cX8_readWork 91 = .ok (.iastore, 1) := by decide +kernel
theorem dX8_readWork_92 : decode cX8_readWork 92 = .ok (.iload 4, 2) := by decide +kernel
theorem dX8_readWork_94 : decode cX8_readWork 94 = .ok (.ifCond .lt 7, 3) := by decide +kernel
theorem dX8_readWork_97 : decode cX8_readWork 97 = .ok (.iconst 1, 1) := by decide +kernel
theorem dX8_readWork_98 : decode cX8_readWork 98 = .ok (.goto 4, 3) := by decide +kernel
theorem dX8_readWork_101 : decode cX8_readWork 101 = .ok (.iconst 0, 1) := by decide +kernel
theorem dX8_readWork_102 : decode cX8_readWork 102 = .ok (.ireturn, 1) := by decide +kernel
set_option maxRecDepth 20000 in
theorem ggX8_readItem_X8_readWall : GoodIn wsX8_readItem wsX8_readWall := goodIn_r _ [9, 10, 3, 11, 12, 13, 8, 14, 2, 1, 15, 16, 17, 18, 19, 20, 21, 22, 23, 24, 25, 26, 27, 28, 29, 30, 31, 32, 33, 34, 35, 36, 37, 38, 39, 40, 41, 42, 43, 44, 45, 46, 47, 48, 49, 63, 64, 65, 66, 67, 68, 69, 70, 71, 72, 73, 74, 75, 76, 77, 78, 79, 80, 81, 82, 83, 84, 85, 86, 87, 88, 89, 90, 91, 92, 93, 94, 95] (by decide +kernel) (by decide +kernel)
set_option maxRecDepth 20000 in
theorem gX8_readItem_X8_readWall : GoodIn wsX8_readItem (wsV RX8 138 RX8 yX8_readWall wsX8_readWall) := goodIn_app (goodIn_of _ (by decide +kernel)) ggX8_readItem_X8_readWall
set_option maxRecDepth 20000 in
theorem ggX8_readItem_X8_readSees : GoodIn wsX8_readItem wsX8_readSees := goodIn_r _ [53, 3, 54, 11, 12, 13, 8, 14, 2, 1, 15, 16, 17, 18, 19, 20, 21, 22, 23, 24, 25, 26, 27, 28, 29, 30, 31, 32, 33, 34, 35, 36, 37, 38, 39, 40, 41, 42, 43, 44, 45, 46, 47, 48, 49, 55, 56, 57, 58, 63, 64, 65, 66, 67, 68, 69, 70, 71, 72, 73, 74, 75, 76, 77, 78, 79, 80, 81, 82, 83, 84, 85, 86, 87, 88, 89, 90, 91, 92, 93, 94, 95] (by decide +kernel) (by decide +kernel)
set_option maxRecDepth 20000 in
theorem gX8_readItem_X8_readSees : GoodIn wsX8_readItem (wsV RX8 142 RX8 yX8_readSees wsX8_readSees) := goodIn_app (goodIn_of _ (by decide +kernel)) ggX8_readItem_X8_readSees
set_option maxRecDepth 20000 in
theorem ggX8_readItem_X8_readWork : GoodIn wsX8_readItem wsX8_readWork := goodIn_r _ [62, 3, 10, 11, 12, 13, 8, 14, 2, 1, 15, 16, 17, 18, 19, 20, 21, 22, 23, 24, 25, 26, 27, 28, 29, 30, 31, 32, 33, 34, 35, 36, 37, 38, 39, 40, 41, 42, 43, 44, 45, 46, 47, 48, 49, 63, 64, 65, 66, 67, 68, 69, 70, 71, 72, 73, 74, 75, 76, 77, 78, 79, 80, 81, 82, 83, 84, 85, 86, 87, 88, 89, 90, 91, 92, 93, 94, 95] (by decide +kernel) (by decide +kernel)
set_option maxRecDepth 20000 in
theorem gX8_readItem_X8_readWork : GoodIn wsX8_readItem (wsV RX8 145 RX8 yX8_readWork wsX8_readWork) := goodIn_app (goodIn_of _ (by decide +kernel)) ggX8_readItem_X8_readWork
set_option maxRecDepth 20000 in
theorem ggX8_readItem_X8_number : GoodIn wsX8_readItem wsX8_number := goodIn_r _ [14, 2, 1, 15, 16, 17, 8, 18, 19, 20, 21, 22, 23, 24, 25, 26, 27, 28, 29, 30, 31, 32, 33, 34, 35, 36, 37, 38, 39, 40, 41, 42, 43, 44, 45, 46, 47, 48, 49, 63, 64, 65, 66, 67, 68, 69, 70, 71, 72, 73, 74, 75, 76, 77, 78, 79, 80, 81, 82, 83, 84, 85, 86, 87, 88, 89, 90, 91, 92, 93, 94, 95] (by decide +kernel) (by decide +kernel)
set_option maxRecDepth 20000 in
theorem gX8_readItem_X8_number : GoodIn wsX8_readItem (wsV RX8 124 RX8 yX8_number wsX8_number) := goodIn_app (goodIn_of _ (by decide +kernel)) ggX8_readItem_X8_number
set_option maxRecDepth 20000 in
theorem ggX8_readItem_X8_reads : GoodIn wsX8_readItem wsX8_reads := goodIn_r _ [18, 19, 20, 21, 22, 2, 23, 24, 8, 25, 26, 27, 28, 29, 30, 31, 32, 33, 34, 35, 36, 37, 38, 39, 40, 1, 41, 42, 43, 44, 45, 46, 47, 48, 49, 63, 64, 65, 66, 67, 68, 69, 70, 71, 72, 73, 74, 75, 76, 77, 78, 79, 80, 81, 82, 83, 84, 85, 86, 87, 88, 89, 90, 91, 92, 93, 94, 95] (by decide +kernel) (by decide +kernel)
set_option maxRecDepth 20000 in
theorem gX8_readItem_X8_reads : GoodIn wsX8_readItem (wsV RX8 121 RX8 yX8_reads wsX8_reads) := goodIn_app (goodIn_of _ (by decide +kernel)) ggX8_readItem_X8_reads
theorem dX8_readItem_0 : decode cX8_readItem 0 = .ok (.aload_n 0, 1) := by decide +kernel
theorem dX8_readItem_1 : decode cX8_readItem 1 = .ok (.getfield 106, 3) := by decide +kernel
theorem dX8_readItem_4 : decode cX8_readItem 4 = .ok (.istore_n 1, 1) := by decide +kernel
theorem dX8_readItem_5 : decode cX8_readItem 5 = .ok (.aload_n 0, 1) := by decide +kernel
theorem dX8_readItem_6 : decode cX8_readItem 6 = .ok (.getfield 109, 3) := by decide +kernel
theorem dX8_readItem_9 : decode cX8_readItem 9 = .ok (.iconst 1, 1) := by decide +kernel
theorem dX8_readItem_10 : decode cX8_readItem 10 = .ok (.if_icmp .ne 28, 3) := by decide +kernel
theorem dX8_readItem_13 : decode cX8_readItem 13 = .ok (.iload_n 1, 1) := by decide +kernel
theorem dX8_readItem_14 : decode cX8_readItem 14 = .ok (.ifCond .ne 12, 3) := by decide +kernel
theorem dX8_readItem_17 : decode cX8_readItem 17 = .ok (.aload_n 0, 1) := by decide +kernel
theorem dX8_readItem_18 : decode cX8_readItem 18 = .ok (.getfield 128, 3) := by decide +kernel
theorem dX8_readItem_21 : decode cX8_readItem 21 = .ok (.bipush 6, 2) := by decide +kernel
theorem dX8_readItem_23 : decode cX8_readItem 23 = .ok (.if_icmp .eq 15, 3) := by decide +kernel
theorem dX8_readItem_26 : decode cX8_readItem 26 = .ok (.iload_n 1, 1) := by decide +kernel
theorem dX8_readItem_27 : decode cX8_readItem 27 = .ok (.iconst 3, 1) := by decide +kernel
theorem dX8_readItem_28 : decode cX8_readItem 28 = .ok (.if_icmp .ne 12, 3) := by decide +kernel
theorem dX8_readItem_31 : decode cX8_readItem 31 = .ok (.aload_n 0, 1) := by decide +kernel
theorem dX8_readItem_32 : decode cX8_readItem 32 = .ok (.getfield 135, 3) := by decide +kernel
theorem dX8_readItem_35 : decode cX8_readItem 35 = .ok (.ifCond .lt 5, 3) := by decide +kernel
theorem dX8_readItem_38 : decode cX8_readItem 38 = .ok (.iconst 0, 1) := by decide +kernel
theorem dX8_readItem_39 : decode cX8_readItem 39 = .ok (.ireturn, 1) := by decide +kernel
theorem dX8_readItem_40 : decode cX8_readItem 40 = .ok (.iload_n 1, 1) := by decide +kernel
theorem dX8_readItem_41 : decode cX8_readItem 41 = .ok (.ifCond .ne 10, 3) := by decide +kernel
theorem dX8_readItem_44 : decode cX8_readItem 44 = .ok (.aload_n 0, 1) := by decide +kernel
theorem dX8_readItem_45 : decode cX8_readItem 45 = .ok (.invokevirtual 138, 3) := by decide +kernel
theorem dX8_readItem_48 : decode cX8_readItem 48 = .ok (.goto 32, 3) := by decide +kernel
theorem dX8_readItem_51 : decode cX8_readItem 51 = .ok (.iload_n 1, 1) := by decide +kernel
theorem dX8_readItem_52 : decode cX8_readItem 52 = .ok (.iconst 1, 1) := by decide +kernel
theorem dX8_readItem_53 : decode cX8_readItem 53 = .ok (.if_icmp .ne 10, 3) := by decide +kernel
theorem dX8_readItem_56 : decode cX8_readItem 56 = .ok (.aload_n 0, 1) := by decide +kernel
theorem dX8_readItem_57 : decode cX8_readItem 57 = .ok (.invokevirtual 142, 3) := by decide +kernel
theorem dX8_readItem_60 : decode cX8_readItem 60 = .ok (.goto 20, 3) := by decide +kernel
theorem dX8_readItem_63 : decode cX8_readItem 63 = .ok (.iload_n 1, 1) := by decide +kernel
theorem dX8_readItem_64 : decode cX8_readItem 64 = .ok (.iconst 2, 1) := by decide +kernel
theorem dX8_readItem_65 : decode cX8_readItem 65 = .ok (.if_icmp .ne 14, 3) := by decide +kernel
theorem dX8_readItem_68 : decode cX8_readItem 68 = .ok (.aload_n 0, 1) := by decide +kernel
theorem dX8_readItem_69 : decode cX8_readItem 69 = .ok (.invokevirtual 145, 3) := by decide +kernel
theorem dX8_readItem_72 : decode cX8_readItem 72 = .ok (.ifCond .eq 7, 3) := by decide +kernel
theorem dX8_readItem_75 : decode cX8_readItem 75 = .ok (.iconst 1, 1) := by decide +kernel
theorem dX8_readItem_76 : decode cX8_readItem 76 = .ok (.goto 4, 3) := by decide +kernel
theorem dX8_readItem_79 : decode cX8_readItem 79 = .ok (.iconst 0, 1) := by decide +kernel
theorem dX8_readItem_80 : decode cX8_readItem 80 = .ok (.istore_n 2, 1) := by decide +kernel
theorem dX8_readItem_81 : decode cX8_readItem 81 = .ok (.iload_n 1, 1) := by decide +kernel
theorem dX8_readItem_82 : decode cX8_readItem 82 = .ok (.iconst 3, 1) := by decide +kernel
theorem dX8_readItem_83 : decode cX8_readItem 83 = .ok (.if_icmp .ne 27, 3) := by decide +kernel
theorem dX8_readItem_86 : decode cX8_readItem 86 = .ok (.aload_n 0, 1) := by decide +kernel
theorem dX8_readItem_87 : decode cX8_readItem 87 = .ok (.aload_n 0, 1) := by decide +kernel
theorem dX8_readItem_88 : decode cX8_readItem 88 = .ok (.iconst 0, 1) := by decide +kernel
theorem dX8_readItem_89 : decode cX8_readItem 89 = .ok (.bipush 99, 2) := by decide +kernel
theorem dX8_readItem_91 : decode cX8_readItem 91 = .ok (.invokevirtual 124, 3) := by decide +kernel
theorem dX8_readItem_94 : decode cX8_readItem 94 = .ok (.putfield 135, 3) := by decide +kernel
theorem dX8_readItem_97 : decode cX8_readItem 97 = .ok (.aload_n 0, 1) := by decide +kernel
theorem dX8_readItem_98 : decode cX8_readItem 98 = .ok (.getfield 135, 3) := by decide +kernel
theorem dX8_readItem_101 : decode cX8_readItem 101 = .ok (.ifCond .lt 7, 3) := by decide +kernel
theorem dX8_readItem_104 : decode cX8_readItem 104 = .ok (.iconst 1, 1) := by decide +kernel
theorem dX8_readItem_105 : decode cX8_readItem 105 = .ok (.goto 4, 3) := by decide +kernel
theorem dX8_readItem_108 : decode cX8_readItem 108 = .ok (.iconst 0, 1) := by decide +kernel
theorem dX8_readItem_109 : decode cX8_readItem 109 = .ok (.istore_n 2, 1) := by decide +kernel
theorem dX8_readItem_110 : decode cX8_readItem 110 = .ok (.iload_n 2, 1) := by decide +kernel
theorem dX8_readItem_111 : decode cX8_readItem 111 = .ok (.ifCond .ne 5, 3) := by decide +kernel
theorem dX8_readItem_114 : decode cX8_readItem 114 = .ok (.iconst 0, 1) := by decide +kernel
theorem dX8_readItem_115 : decode cX8_readItem 115 = .ok (.ireturn, 1) := by decide +kernel
theorem dX8_readItem_116 : decode cX8_readItem 116 = .ok (.aload_n 0, 1) := by decide +kernel
theorem dX8_readItem_117 : decode cX8_readItem 117 = .ok (.invokevirtual 121, 3) := by decide +kernel
theorem dX8_readItem_120 : decode cX8_readItem 120 = .ok (.aload_n 0, 1) := by decide +kernel
theorem dX8_readItem_121 : decode cX8_readItem 121 = .ok (.getfield 109, 3) := by decide +kernel
theorem dX8_readItem_124 : decode cX8_readItem 124 = .ok (.iconst 3, 1) := by decide +kernel
theorem dX8_readItem_125 : decode cX8_readItem 125 = .ok (.if_icmp .ne 7, 3) := by decide +kernel
theorem dX8_readItem_128 : decode cX8_readItem 128 = .ok (.iconst 1, 1) := by decide +kernel
theorem dX8_readItem_129 : decode cX8_readItem 129 = .ok (.goto 4, 3) := by decide +kernel
theorem dX8_readItem_132 : decode cX8_readItem 132 = .ok (.iconst 0, 1) := by decide +kernel
theorem dX8_readItem_133 : decode cX8_readItem 133 = .ok (.ireturn, 1) := by decide +kernel
set_option maxRecDepth 20000 in
theorem ggX8_walls_X8_reads : GoodIn wsX8_walls wsX8_reads := goodIn_r _ [12, 1, 7, 13, 6, 5, 14, 15, 11, 16, 17, 18, 19, 20, 21, 22, 23, 24, 25, 26, 27, 28, 29, 30, 31, 32, 33, 34, 35, 36, 37, 38, 39, 40, 41, 86, 87, 88, 89, 90, 91, 92, 93, 94, 95, 96, 97, 98, 99, 100, 101, 102, 103, 104, 105, 106, 107, 108, 109, 110, 111, 112, 113, 114, 115, 116, 117, 118] (by decide +kernel) (by decide +kernel)
set_option maxRecDepth 20000 in
theorem gX8_walls_X8_reads : GoodIn wsX8_walls (wsV RX8 121 RX8 yX8_reads wsX8_reads) := goodIn_app (goodIn_of _ (by decide +kernel)) ggX8_walls_X8_reads
set_option maxRecDepth 20000 in
theorem ggX8_walls_X8_readItem : GoodIn wsX8_walls wsX8_readItem := goodIn_r _ [45, 32, 5, 2, 3, 46, 47, 48, 11, 49, 50, 51, 52, 53, 54, 8, 9, 10, 12, 1, 7, 13, 6, 14, 15, 16, 17, 18, 19, 20, 21, 22, 23, 24, 25, 26, 27, 28, 29, 30, 31, 33, 34, 35, 36, 37, 38, 39, 40, 41, 55, 56, 57, 58, 4, 59, 60, 61, 62, 63, 64, 65, 66, 86, 87, 88, 89, 90, 91, 92, 93, 94, 95, 96, 97, 98, 99, 100, 101, 102, 103, 104, 105, 106, 107, 108, 109, 110, 111, 112, 113, 114, 115, 116, 117, 118] (by decide +kernel) (by decide +kernel)
set_option maxRecDepth 20000 in
theorem gX8_walls_X8_readItem : GoodIn wsX8_walls (wsV RX8 148 RX8 yX8_readItem wsX8_readItem) := goodIn_app (goodIn_of _ (by decide +kernel)) ggX8_walls_X8_readItem
set_option maxRecDepth 20000 in
theorem ggX8_walls_X8_takes : GoodIn wsX8_walls wsX8_takes := goodIn_r _ [70, 2, 71, 3, 72, 73, 50, 74, 75, 76, 77, 78, 4, 79, 80, 81, 82, 83, 84, 85, 86, 87, 88, 89, 90, 91, 92, 93, 94, 95, 96, 97, 98, 99, 100, 101, 102, 103, 104, 105, 106, 107, 108, 109, 110, 111, 112, 113, 114, 115, 116, 117, 118] (by decide +kernel) (by decide +kernel)
set_option maxRecDepth 20000 in
theorem gX8_walls_X8_takes : GoodIn wsX8_walls (wsV RX8 151 RX8 yX8_takes wsX8_takes) := goodIn_app (goodIn_of _ (by decide +kernel)) ggX8_walls_X8_takes
theorem dX8_walls_0 : decode cX8_walls 0 = .ok (.aload_n 0, 1) := by decide +kernel
theorem dX8_walls_1 : decode cX8_walls 1 = .ok (.iconst 0, 1) := by decide +kernel
theorem dX8_walls_2 : decode cX8_walls 2 = .ok (.putfield 84, 3) := by decide +kernel
theorem dX8_walls_5 : decode cX8_walls 5 = .ok (.aload_n 0, 1) := by decide +kernel
theorem dX8_walls_6 : decode cX8_walls 6 = .ok (.iconst 0, 1) := by decide +kernel
theorem dX8_walls_7 : decode cX8_walls 7 = .ok (.putfield 128, 3) := by decide +kernel
theorem dX8_walls_10 : decode cX8_walls 10 = .ok (.aload_n 0, 1) := by decide +kernel
theorem dX8_walls_11 : decode cX8_walls 11 = .ok (.iconst (-1), 1) := by decide +kernel
theorem dX8_walls_12 : decode cX8_walls 12 = .ok (.putfield 135, 3) := by decide +kernel
theorem dX8_walls_15 : decode cX8_walls 15 = .ok (.iconst 0, 1) := by decide +kernel
theorem dX8_walls_16 : decode cX8_walls 16 = .ok (.istore_n 1, 1) := by decide +kernel
theorem dX8_walls_17 : decode cX8_walls 17 = .ok (.iload_n 1, 1) := by decide +kernel
theorem dX8_walls_18 : decode cX8_walls 18 = .ok (.bipush 36, 2) := by decide +kernel
theorem dX8_walls_20 : decode cX8_walls 20 = .ok (.if_icmp .ge 16, 3) := by decide +kernel
theorem dX8_walls_23 : decode cX8_walls 23 = .ok (.aload_n 0, 1) := by decide +kernel
theorem dX8_walls_24 : decode cX8_walls 24 = .ok (.getfield 16, 3) := by decide +kernel
theorem dX8_walls_27 : decode cX8_walls 27 = .ok (.iload_n 1, 1) := by decide +kernel
theorem dX8_walls_28 : decode cX8_walls 28 = .ok (.iconst 0, 1) := by decide +kernel
theorem dX8_walls_29 : decode cX8_walls 29 = .ok (.iastore, 1) := by decide +kernel
theorem dX8_walls_30 : decode cX8_walls 30 = .ok (.iinc 1 1, 3) := by decide +kernel
theorem dX8_walls_33 : decode cX8_walls 33 = .ok (.goto (-16), 3) := by decide +kernel
theorem dX8_walls_36 : decode cX8_walls 36 = .ok (.iconst 0, 1) := by decide +kernel
theorem dX8_walls_37 : decode cX8_walls 37 = .ok (.istore_n 1, 1) := by decide +kernel
theorem dX8_walls_38 : decode cX8_walls 38 = .ok (.aload_n 0, 1) := by decide +kernel
theorem dX8_walls_39 : decode cX8_walls 39 = .ok (.invokevirtual 121, 3) := by decide +kernel
theorem dX8_walls_42 : decode cX8_walls 42 = .ok (.aload_n 0, 1) := by decide +kernel
theorem dX8_walls_43 : decode cX8_walls 43 = .ok (.getfield 109, 3) := by decide +kernel
theorem dX8_walls_46 : decode cX8_walls 46 = .ok (.ifCond .eq 28, 3) := by decide +kernel
theorem dX8_walls_49 : decode cX8_walls 49 = .ok (.aload_n 0, 1) := by decide +kernel
theorem dX8_walls_50 : decode cX8_walls 50 = .ok (.invokevirtual 148, 3) := by decide +kernel
theorem dX8_walls_53 : decode cX8_walls 53 = .ok (.ifCond .ne 11, 3) := by decide +kernel
theorem dX8_walls_56 : decode cX8_walls 56 = .ok (.bipush (-10), 2) := by decide +kernel
theorem dX8_walls_58 : decode cX8_walls 58 = .ok (.aload_n 0, 1) := by decide +kernel
theorem dX8_walls_59 : decode cX8_walls 59 = .ok (.getfield 91, 3) := by decide +kernel
theorem dX8_walls_62 : decode cX8_walls 62 = .ok (.isub, 1) := by decide +kernel
theorem dX8_walls_63 : decode cX8_walls 63 = .ok (.ireturn, 1) := by decide +kernel
theorem dX8_walls_64 : decode cX8_walls 64 = .ok (.iinc 1 1, 3) := by decide +kernel
theorem dX8_walls_67 : decode cX8_walls 67 = .ok (.aload_n 0, 1) := by decide +kernel
theorem dX8_walls_68 : decode cX8_walls 68 = .ok (.invokevirtual 121, 3) := by decide +kernel
theorem dX8_walls_71 : decode cX8_walls 71 = .ok (.goto (-29), 3) := by decide +kernel
theorem dX8_walls_74 : decode cX8_walls 74 = .ok (.aload_n 0, 1) := by decide +kernel
theorem dX8_walls_75 : decode cX8_walls 75 = .ok (.invokevirtual 151, 3) := by decide +kernel
theorem dX8_walls_78 : decode cX8_walls 78 = .ok (.aload_n 0, 1) := by decide +kernel
theorem dX8_walls_79 : decode cX8_walls 79 = .ok (.iconst 0, 1) := by decide +kernel
theorem dX8_walls_80 : decode cX8_walls 80 = .ok (.putfield 71, 3) := by decide +kernel
theorem dX8_walls_83 : decode cX8_walls 83 = .ok (.iload_n 1, 1) := by decide +kernel
theorem dX8_walls_84 : decode cX8_walls 84 = .ok (.ireturn, 1) := by decide +kernel
theorem dX8_takes_0 : decode cX8_takes 0 = .ok (.aload_n 0, 1) := by decide +kernel
theorem dX8_takes_1 : decode cX8_takes 1 = .ok (.aload_n 0, 1) := by decide +kernel
theorem dX8_takes_2 : decode cX8_takes 2 = .ok (.getfield 128, 3) := by decide +kernel
theorem dX8_takes_5 : decode cX8_takes 5 = .ok (.putfield 154, 3) := by decide +kernel
theorem dX8_takes_8 : decode cX8_takes 8 = .ok (.aload_n 0, 1) := by decide +kernel
theorem dX8_takes_9 : decode cX8_takes 9 = .ok (.aload_n 0, 1) := by decide +kernel
theorem dX8_takes_10 : decode cX8_takes 10 = .ok (.getfield 135, 3) := by decide +kernel
theorem dX8_takes_13 : decode cX8_takes 13 = .ok (.ifCond .ge 8, 3) := by decide +kernel
theorem dX8_takes_16 : decode cX8_takes 16 = .ok (.bipush 99, 2) := by decide +kernel
theorem dX8_takes_18 : decode cX8_takes 18 = .ok (.goto 13, 3) := by decide +kernel
theorem dX8_takes_21 : decode cX8_takes 21 = .ok (.bipush 10, 2) := by decide +kernel
theorem dX8_takes_23 : decode cX8_takes 23 = .ok (.aload_n 0, 1) := by decide +kernel
theorem dX8_takes_24 : decode cX8_takes 24 = .ok (.getfield 135, 3) := by decide +kernel
theorem dX8_takes_27 : decode cX8_takes 27 = .ok (.imul, 1) := by decide +kernel
theorem dX8_takes_28 : decode cX8_takes 28 = .ok (.bipush 9, 2) := by decide +kernel
theorem dX8_takes_30 : decode cX8_takes 30 = .ok (.iadd, 1) := by decide +kernel
theorem dX8_takes_31 : decode cX8_takes 31 = .ok (.putfield 61, 3) := by decide +kernel
theorem dX8_takes_34 : decode cX8_takes 34 = .ok (.iconst 0, 1) := by decide +kernel
theorem dX8_takes_35 : decode cX8_takes 35 = .ok (.istore_n 1, 1) := by decide +kernel
theorem dX8_takes_36 : decode cX8_takes 36 = .ok (.iload_n 1, 1) := by decide +kernel
theorem dX8_takes_37 : decode cX8_takes 37 = .ok (.aload_n 0, 1) := by decide +kernel
theorem dX8_takes_38 : decode cX8_takes 38 = .ok (.getfield 154, 3) := by decide +kernel
theorem dX8_takes_41 : decode cX8_takes 41 = .ok (.if_icmp .ge 78, 3) := by decide +kernel
theorem dX8_takes_44 : decode cX8_takes 44 = .ok (.aload_n 0, 1) := by decide +kernel
theorem dX8_takes_45 : decode cX8_takes 45 = .ok (.getfield 19, 3) := by decide +kernel
theorem dX8_takes_48 : decode cX8_takes 48 = .ok (.iload_n 1, 1) := by decide +kernel
theorem dX8_takes_49 : decode cX8_takes 49 = .ok (.aload_n 0, 1) := by decide +kernel
theorem dX8_takes_50 : decode cX8_takes 50 = .ok (.getfield 13, 3) := by decide +kernel
theorem dX8_takes_53 : decode cX8_takes 53 = .ok (.iload_n 1, 1) := by decide +kernel
theorem dX8_takes_54 : decode cX8_takes 54 = .ok (.iaload, 1) := by decide +kernel
theorem dX8_takes_55 : decode cX8_takes 55 = .ok (.iastore, 1) := by decide +kernel
theorem dX8_takes_56 : decode cX8_takes 56 = .ok (.aload_n 0, 1) := by decide +kernel
theorem dX8_takes_57 : decode cX8_takes 57 = .ok (.getfield 22, 3) := by decide +kernel
theorem dX8_takes_60 : decode cX8_takes 60 = .ok (.iload_n 1, 1) := by decide +kernel
theorem dX8_takes_61 : decode cX8_takes 61 = .ok (.aload_n 0, 1) := by decide +kernel
theorem dX8_takes_62 : decode cX8_takes 62 = .ok (.getfield 13, 3) := by decide +kernel
theorem dX8_takes_65 : decode cX8_takes 65 = .ok (.bipush 6, 2) := by decide +kernel
theorem dX8_takes_67 : decode cX8_takes 67 = .ok (.iload_n 1, 1) := by decide +kernel
theorem dX8_takes_68 : decode cX8_takes 68 = .ok (.iadd, 1) := by decide +kernel
theorem dX8_takes_69 : decode cX8_takes 69 = .ok (.iaload, 1) := by decide +kernel
theorem dX8_takes_70 : decode cX8_takes 70 = .ok (.iastore, 1) := by decide +kernel
theorem dX8_takes_71 : decode cX8_takes 71 = .ok (.aload_n 0, 1) := by decide +kernel
theorem dX8_takes_72 : decode cX8_takes 72 = .ok (.getfield 25, 3) := by decide +kernel
theorem dX8_takes_75 : decode cX8_takes 75 = .ok (.iload_n 1, 1) := by decide +kernel
theorem dX8_takes_76 : decode cX8_takes 76 = .ok (.aload_n 0, 1) := by decide +kernel
theorem dX8_takes_77 : decode cX8_takes 77 = .ok (.getfield 13, 3) := by decide +kernel
theorem dX8_takes_80 : decode cX8_takes 80 = .ok (.bipush 12, 2) := by decide +kernel
theorem dX8_takes_82 : decode cX8_takes 82 = .ok (.iload_n 1, 1) := by decide +kernel
theorem dX8_takes_83 : decode cX8_takes 83 = .ok (.iadd, 1) := by decide +kernel
theorem dX8_takes_84 : decode cX8_takes 84 = .ok (.iaload, 1) := by decide +kernel
theorem dX8_takes_85 : decode cX8_takes 85 = .ok (.iastore, 1) := by decide +kernel
theorem dX8_takes_86 : decode cX8_takes 86 = .ok (.aload_n 0, 1) := by decide +kernel
theorem dX8_takes_87 : decode cX8_takes 87 = .ok (.getfield 28, 3) := by decide +kernel
theorem dX8_takes_90 : decode cX8_takes 90 = .ok (.iload_n 1, 1) := by decide +kernel
theorem dX8_takes_91 : decode cX8_takes 91 = .ok (.aload_n 0, 1) := by decide +kernel
theorem dX8_takes_92 : decode cX8_takes 92 = .ok (.getfield 13, 3) := by decide +kernel
theorem dX8_takes_95 : decode cX8_takes 95 = .ok (.bipush 18, 2) := by decide +kernel
theorem dX8_takes_97 : decode cX8_takes 97 = .ok (.iload_n 1, 1) := by decide +kernel
theorem dX8_takes_98 : decode cX8_takes 98 = .ok (.iadd, 1) := by decide +kernel
theorem dX8_takes_99 : decode cX8_takes 99 = .ok (.iaload, 1) := by decide +kernel
theorem dX8_takes_100 : decode cX8_takes 100 = .ok (.iastore, 1) := by decide +kernel
theorem dX8_takes_101 : decode cX8_takes 101 = .ok (.aload_n 0, 1) := by decide +kernel
theorem dX8_takes_102 : decode cX8_takes 102 = .ok (.getfield 34, 3) := by decide +kernel
theorem dX8_takes_105 : decode cX8_takes 105 = .ok (.iload_n 1, 1) := by decide +kernel
theorem dX8_takes_106 : decode cX8_takes 106 = .ok (.aload_n 0, 1) := by decide +kernel
theorem dX8_takes_107 : decode cX8_takes 107 = .ok (.getfield 19, 3) := by decide +kernel
theorem dX8_takes_110 : decode cX8_takes 110 = .ok (.iload_n 1, 1) := by decide +kernel
theorem dX8_takes_111 : decode cX8_takes 111 = .ok (.iaload, 1) := by decide +kernel
theorem dX8_takes_112 : decode cX8_takes 112 = .ok (.iastore, 1) := by decide +kernel
theorem dX8_takes_113 : decode cX8_takes 113 = .ok (.iinc 1 1, 3) := by decide +kernel
theorem dX8_takes_116 : decode cX8_takes 116 = .ok (.goto (-80), 3) := by decide +kernel
theorem dX8_takes_119 : decode cX8_takes 119 = .ok (.iconst 0, 1) := by decide +kernel
theorem dX8_takes_120 : decode cX8_takes 120 = .ok (.istore_n 1, 1) := by decide +kernel
theorem dX8_takes_121 : decode cX8_takes 121 = .ok (.iload_n 1, 1) := by decide +kernel
theorem dX8_takes_122 : decode cX8_takes 122 = .ok (.bipush 36, 2) := by decide +kernel
theorem dX8_takes_124 : decode cX8_takes 124 = .ok (.if_icmp .ge 21, 3) := by decide +kernel
theorem dX8_takes_127 : decode cX8_takes 127 = .ok (.aload_n 0, 1) := by decide +kernel
theorem dX8_takes_128 : decode cX8_takes 128 = .ok (.getfield 31, 3) := by decide +kernel
theorem dX8_takes_131 : decode cX8_takes 131 = .ok (.iload_n 1, 1) := by decide +kernel
theorem dX8_takes_132 : decode cX8_takes 132 = .ok (.aload_n 0, 1) := by decide +kernel
theorem dX8_takes_133 : decode cX8_takes 133 = .ok (.getfield 16, 3) := by decide +kernel
theorem dX8_takes_136 : decode cX8_takes 136 = .ok (.iload_n 1, 1) := by decide +kernel
theorem dX8_takes_137 : decode cX8_takes 137 = .ok (.iaload, 1) := by decide +kernel
theorem dX8_takes_138 : decode cX8_takes 138 = .ok (.iastore, 1) := by decide +kernel
theorem dX8_takes_139 : decode cX8_takes 139 = .ok (.iinc 1 1, 3) := by decide +kernel
theorem dX8_takes_142 : decode cX8_takes 142 = .ok (.goto (-21), 3) := by decide +kernel
theorem dX8_takes_145 : decode cX8_takes 145 = .ok (.aload_n 0, 1) := by decide +kernel
theorem dX8_takes_146 : decode cX8_takes 146 = .ok (.iconst 0, 1) := by decide +kernel
theorem dX8_takes_147 : decode cX8_takes 147 = .ok (.putfield 157, 3) := by decide +kernel
theorem dX8_takes_150 : decode cX8_takes 150 = .ok (.aload_n 0, 1) := by decide +kernel
theorem dX8_takes_151 : decode cX8_takes 151 = .ok (.iconst 0, 1) := by decide +kernel
theorem dX8_takes_152 : decode cX8_takes 152 = .ok (.putfield 160, 3) := by decide +kernel
theorem dX8_takes_155 : decode cX8_takes 155 = .ok (.aload_n 0, 1) := by decide +kernel
theorem dX8_takes_156 : decode cX8_takes 156 = .ok (.iconst 0, 1) := by decide +kernel
theorem dX8_takes_157 : decode cX8_takes 157 = .ok (.putfield 163, 3) := by decide +kernel
theorem dX8_takes_160 : decode cX8_takes 160 = .ok (.aload_n 0, 1) := by decide +kernel
theorem dX8_takes_161 : decode cX8_takes 161 = .ok (.iconst 0, 1) := by decide +kernel
theorem dX8_takes_162 : decode cX8_takes 162 = .ok (.putfield 166, 3) := by decide +kernel
theorem dX8_takes_165 : decode cX8_takes 165 = .ok (.aload_n 0, 1) := by decide +kernel
theorem dX8_takes_166 : decode cX8_takes 166 = .ok (.iconst 0, 1) := by decide +kernel
theorem dX8_takes_167 : decode cX8_takes 167 = .ok (.putfield 169, 3) := by decide +kernel
theorem dX8_takes_170 : decode cX8_takes 170 = .ok (.aload_n 0, 1) := by decide +kernel
theorem dX8_takes_171 : decode cX8_takes 171 = .ok (.iconst 0, 1) := by decide +kernel
theorem dX8_takes_172 : decode cX8_takes 172 = .ok (.putfield 172, 3) := by decide +kernel
theorem dX8_takes_175 : decode cX8_takes 175 = .ok (.aload_n 0, 1) := by decide +kernel
theorem dX8_takes_176 : decode cX8_takes 176 = .ok (.getfield 58, 3) := by decide +kernel
theorem dX8_takes_179 : decode cX8_takes 179 = .ok (.iconst 0, 1) := by decide +kernel
theorem dX8_takes_180 : decode cX8_takes 180 = .ok (.iconst (-1), 1) := by decide +kernel
theorem dX8_takes_181 : decode cX8_takes 181 = .ok (.iastore, 1) := by decide +kernel
theorem dX8_takes_182 : decode cX8_takes 182 = .ok (.aload_n 0, 1) := by decide +kernel
theorem dX8_takes_183 : decode cX8_takes 183 = .ok (.getfield 58, 3) := by decide +kernel
theorem dX8_takes_186 : decode cX8_takes 186 = .ok (.bipush 21, 2) := by decide +kernel
theorem dX8_takes_188 : decode cX8_takes 188 = .ok (.iconst (-1), 1) := by decide +kernel
theorem dX8_takes_189 : decode cX8_takes 189 = .ok (.iastore, 1) := by decide +kernel
theorem dX8_takes_190 : decode cX8_takes 190 = .ok (.return_, 1) := by decide +kernel
set_option maxRecDepth 20000 in
theorem ggX8_isWall_X8_in : GoodIn wsX8_isWall wsX8_in := goodIn_r _ [5] (by decide +kernel) (by decide +kernel)
set_option maxRecDepth 20000 in
theorem gX8_isWall_X8_in : GoodIn wsX8_isWall (va_wsS RX8 67 yX8_in wsX8_in) := goodIn_app (goodIn_of _ (by decide +kernel)) ggX8_isWall_X8_in
theorem dX8_isWall_0 : decode cX8_isWall 0 = .ok (.iload_n 1, 1) := by decide +kernel
theorem dX8_isWall_1 : decode cX8_isWall 1 = .ok (.i2l, 1) := by decide +kernel
theorem dX8_isWall_2 : decode cX8_isWall 2 = .ok (.lconst 0, 1) := by decide +kernel
theorem dX8_isWall_3 : decode cX8_isWall 3 = .ok (.aload_n 0, 1) := by decide +kernel
theorem dX8_isWall_4 : decode cX8_isWall 4 = .ok (.getfield 154, 3) := by decide +kernel
theorem dX8_isWall_7 : decode cX8_isWall 7 = .ok (.iconst 1, 1) := by decide +kernel
theorem dX8_isWall_8 : decode cX8_isWall 8 = .ok (.isub, 1) := by decide +kernel
theorem dX8_isWall_9 : decode cX8_isWall 9 = .ok (.i2l, 1) := by decide +kernel
theorem dX8_isWall_10 : decode cX8_isWall 10 = .ok (.invokestatic 67, 3) := by decide +kernel
theorem dX8_isWall_13 : decode cX8_isWall 13 = .ok (.ireturn, 1) := by decide +kernel
set_option maxRecDepth 20000 in
theorem ggX8_wall_X8_isWall : GoodIn wsX8_wall wsX8_isWall := goodIn_r _ [12, 13, 14, 15, 11, 16, 21, 22, 23, 24, 25, 26, 27, 28, 29, 30, 31, 32, 33, 34, 35, 36, 37, 38, 39, 40, 41, 42, 43, 44, 45, 46, 47, 48, 49, 50, 51, 52, 53] (by decide +kernel) (by decide +kernel)
set_option maxRecDepth 20000 in
theorem gX8_wall_X8_isWall : GoodIn wsX8_wall (wsV RX8 175 RX8 yX8_isWall wsX8_isWall) := goodIn_app (goodIn_of _ (by decide +kernel)) ggX8_wall_X8_isWall
set_option maxRecDepth 20000 in
theorem ggX8_wall_X8_seen : GoodIn wsX8_wall wsX8_seen := goodIn_r _ [20] (by decide +kernel) (by decide +kernel)
set_option maxRecDepth 20000 in
theorem gX8_wall_X8_seen : GoodIn wsX8_wall (wsV RX8 131 RX8 yX8_seen wsX8_seen) := goodIn_app (goodIn_of _ (by decide +kernel)) ggX8_wall_X8_seen
theorem dX8_wall_0 : decode cX8_wall 0 = .ok (.aload_n 0, 1) := by decide +kernel
theorem dX8_wall_1 : decode cX8_wall 1 = .ok (.iload_n 1, 1) := by decide +kernel
theorem dX8_wall_2 : decode cX8_wall 2 = .ok (.invokevirtual 175, 3) := by decide +kernel
theorem dX8_wall_5 : decode cX8_wall 5 = .ok (.ifCond .ne 5, 3) := by decide +kernel
theorem dX8_wall_8 : decode cX8_wall 8 = .ok (.iconst (-1), 1) := by decide +kernel
theorem dX8_wall_9 : decode cX8_wall 9 = .ok (.ireturn, 1) := by decide +kernel
theorem dX8_wall_10 : decode cX8_wall 10 = .ok (.iload_n 2, 1) := by decide +kernel
theorem dX8_wall_11 : decode cX8_wall 11 = .ok (.tableswitch 100 0 6 #[41, 48, 55, 62, 69, 82, 91], 41) := by decide +kernel
theorem dX8_wall_52 : decode cX8_wall 52 = .ok (.aload_n 0, 1) := by decide +kernel
theorem dX8_wall_53 : decode cX8_wall 53 = .ok (.getfield 34, 3) := by decide +kernel
theorem dX8_wall_56 : decode cX8_wall 56 = .ok (.iload_n 1, 1) := by decide +kernel
theorem dX8_wall_57 : decode cX8_wall 57 = .ok (.iaload, 1) := by decide +kernel
theorem dX8_wall_58 : decode cX8_wall 58 = .ok (.ireturn, 1) := by decide +kernel
theorem dX8_wall_59 : decode cX8_wall 59 = .ok (.aload_n 0, 1) := by decide +kernel
theorem dX8_wall_60 : decode cX8_wall 60 = .ok (.getfield 22, 3) := by decide +kernel
theorem dX8_wall_63 : decode cX8_wall 63 = .ok (.iload_n 1, 1) := by decide +kernel
theorem dX8_wall_64 : decode cX8_wall 64 = .ok (.iaload, 1) := by decide +kernel
theorem dX8_wall_65 : decode cX8_wall 65 = .ok (.ireturn, 1) := by decide +kernel
theorem dX8_wall_66 : decode cX8_wall 66 = .ok (.aload_n 0, 1) := by decide +kernel
theorem dX8_wall_67 : decode cX8_wall 67 = .ok (.getfield 25, 3) := by decide +kernel
theorem dX8_wall_70 : decode cX8_wall 70 = .ok (.iload_n 1, 1) := by decide +kernel
theorem dX8_wall_71 : decode cX8_wall 71 = .ok (.iaload, 1) := by decide +kernel
theorem dX8_wall_72 : decode cX8_wall 72 = .ok (.ireturn, 1) := by decide +kernel
theorem dX8_wall_73 : decode cX8_wall 73 = .ok (.aload_n 0, 1) := by decide +kernel
theorem dX8_wall_74 : decode cX8_wall 74 = .ok (.getfield 28, 3) := by decide +kernel
theorem dX8_wall_77 : decode cX8_wall 77 = .ok (.iload_n 1, 1) := by decide +kernel
theorem dX8_wall_78 : decode cX8_wall 78 = .ok (.iaload, 1) := by decide +kernel
theorem dX8_wall_79 : decode cX8_wall 79 = .ok (.ireturn, 1) := by decide +kernel
theorem dX8_wall_80 : decode cX8_wall 80 = .ok (.bipush 10, 2) := by decide +kernel
theorem dX8_wall_82 : decode cX8_wall 82 = .ok (.aload_n 0, 1) := by decide +kernel
theorem dX8_wall_83 : decode cX8_wall 83 = .ok (.aload_n 0, 1) := by decide +kernel
theorem dX8_wall_84 : decode cX8_wall 84 = .ok (.getfield 31, 3) := by decide +kernel
theorem dX8_wall_87 : decode cX8_wall 87 = .ok (.iload_n 1, 1) := by decide +kernel
theorem dX8_wall_88 : decode cX8_wall 88 = .ok (.invokevirtual 131, 3) := by decide +kernel
theorem dX8_wall_91 : decode cX8_wall 91 = .ok (.isub, 1) := by decide +kernel
theorem dX8_wall_92 : decode cX8_wall 92 = .ok (.ireturn, 1) := by decide +kernel
theorem dX8_wall_93 : decode cX8_wall 93 = .ok (.aload_n 0, 1) := by decide +kernel
theorem dX8_wall_94 : decode cX8_wall 94 = .ok (.getfield 160, 3) := by decide +kernel
theorem dX8_wall_97 : decode cX8_wall 97 = .ok (.iload_n 1, 1) := by decide +kernel
theorem dX8_wall_98 : decode cX8_wall 98 = .ok (.ishr, 1) := by decide +kernel
theorem dX8_wall_99 : decode cX8_wall 99 = .ok (.iconst 1, 1) := by decide +kernel
theorem dX8_wall_100 : decode cX8_wall 100 = .ok (.iand, 1) := by decide +kernel
theorem dX8_wall_101 : decode cX8_wall 101 = .ok (.ireturn, 1) := by decide +kernel
theorem dX8_wall_102 : decode cX8_wall 102 = .ok (.aload_n 0, 1) := by decide +kernel
theorem dX8_wall_103 : decode cX8_wall 103 = .ok (.getfield 163, 3) := by decide +kernel
theorem dX8_wall_106 : decode cX8_wall 106 = .ok (.iload_n 1, 1) := by decide +kernel
theorem dX8_wall_107 : decode cX8_wall 107 = .ok (.ishr, 1) := by decide +kernel
theorem dX8_wall_108 : decode cX8_wall 108 = .ok (.iconst 1, 1) := by decide +kernel
theorem dX8_wall_109 : decode cX8_wall 109 = .ok (.iand, 1) := by decide +kernel
theorem dX8_wall_110 : decode cX8_wall 110 = .ok (.ireturn, 1) := by decide +kernel
theorem dX8_wall_111 : decode cX8_wall 111 = .ok (.iconst (-1), 1) := by decide +kernel
theorem dX8_wall_112 : decode cX8_wall 112 = .ok (.ireturn, 1) := by decide +kernel
set_option maxRecDepth 20000 in
theorem ggX8_sees_X8_isWall : GoodIn wsX8_sees wsX8_isWall := goodIn_r _ [6, 7, 8, 9, 5, 10, 11, 12, 13, 14, 15, 16, 17, 18, 19, 20, 21, 22, 23, 24, 25, 26, 27, 28, 29, 30, 31, 32, 33, 34, 35, 36, 37, 38, 39, 40, 41, 42, 43] (by decide +kernel) (by decide +kernel)
set_option maxRecDepth 20000 in
theorem gX8_sees_X8_isWall : GoodIn wsX8_sees (wsV RX8 175 RX8 yX8_isWall wsX8_isWall) := goodIn_app (goodIn_of _ (by decide +kernel)) ggX8_sees_X8_isWall
theorem dX8_sees_0 : decode cX8_sees 0 = .ok (.aload_n 0, 1) := by decide +kernel
theorem dX8_sees_1 : decode cX8_sees 1 = .ok (.iload_n 1, 1) := by decide +kernel
theorem dX8_sees_2 : decode cX8_sees 2 = .ok (.invokevirtual 175, 3) := by decide +kernel
theorem dX8_sees_5 : decode cX8_sees 5 = .ok (.ifCond .eq 30, 3) := by decide +kernel
theorem dX8_sees_8 : decode cX8_sees 8 = .ok (.aload_n 0, 1) := by decide +kernel
theorem dX8_sees_9 : decode cX8_sees 9 = .ok (.iload_n 2, 1) := by decide +kernel
theorem dX8_sees_10 : decode cX8_sees 10 = .ok (.invokevirtual 175, 3) := by decide +kernel
theorem dX8_sees_13 : decode cX8_sees 13 = .ok (.ifCond .eq 22, 3) := by decide +kernel
theorem dX8_sees_16 : decode cX8_sees 16 = .ok (.iload_n 1, 1) := by decide +kernel
theorem dX8_sees_17 : decode cX8_sees 17 = .ok (.iload_n 2, 1) := by decide +kernel
theorem dX8_sees_18 : decode cX8_sees 18 = .ok (.if_icmp .eq 17, 3) := by decide +kernel
theorem dX8_sees_21 : decode cX8_sees 21 = .ok (.aload_n 0, 1) := by decide +kernel
theorem dX8_sees_22 : decode cX8_sees 22 = .ok (.getfield 31, 3) := by decide +kernel
theorem dX8_sees_25 : decode cX8_sees 25 = .ok (.bipush 6, 2) := by decide +kernel
theorem dX8_sees_27 : decode cX8_sees 27 = .ok (.iload_n 1, 1) := by decide +kernel
theorem dX8_sees_28 : decode cX8_sees 28 = .ok (.imul, 1) := by decide +kernel
theorem dX8_sees_29 : decode cX8_sees 29 = .ok (.iload_n 2, 1) := by decide +kernel
theorem dX8_sees_30 : decode cX8_sees 30 = .ok (.iadd, 1) := by decide +kernel
theorem dX8_sees_31 : decode cX8_sees 31 = .ok (.iaload, 1) := by decide +kernel
theorem dX8_sees_32 : decode cX8_sees 32 = .ok (.goto 4, 3) := by decide +kernel
theorem dX8_sees_35 : decode cX8_sees 35 = .ok (.iconst (-1), 1) := by decide +kernel
theorem dX8_sees_36 : decode cX8_sees 36 = .ok (.ireturn, 1) := by decide +kernel
theorem dX8_goes_0 : decode cX8_goes 0 = .ok (.iconst 0, 1) := by decide +kernel
theorem dX8_goes_1 : decode cX8_goes 1 = .ok (.istore 5, 2) := by decide +kernel
theorem dX8_goes_3 : decode cX8_goes 3 = .ok (.iconst 0, 1) := by decide +kernel
theorem dX8_goes_4 : decode cX8_goes 4 = .ok (.istore 6, 2) := by decide +kernel
theorem dX8_goes_6 : decode cX8_goes 6 = .ok (.iload 6, 2) := by decide +kernel
theorem dX8_goes_8 : decode cX8_goes 8 = .ok (.aload_n 0, 1) := by decide +kernel
theorem dX8_goes_9 : decode cX8_goes 9 = .ok (.getfield 154, 3) := by decide +kernel
theorem dX8_goes_12 : decode cX8_goes 12 = .ok (.if_icmp .ge 50, 3) := by decide +kernel
theorem dX8_goes_15 : decode cX8_goes 15 = .ok (.aload_n 0, 1) := by decide +kernel
theorem dX8_goes_16 : decode cX8_goes 16 = .ok (.getfield 37, 3) := by decide +kernel
theorem dX8_goes_19 : decode cX8_goes 19 = .ok (.iload 6, 2) := by decide +kernel
theorem dX8_goes_21 : decode cX8_goes 21 = .ok (.aload_n 1, 1) := by decide +kernel
theorem dX8_goes_22 : decode cX8_goes 22 = .ok (.iload 6, 2) := by decide +kernel
theorem dX8_goes_24 : decode cX8_goes 24 = .ok (.iaload, 1) := by decide +kernel
theorem dX8_goes_25 : decode cX8_goes 25 = .ok (.aload_n 0, 1) := by decide +kernel
theorem dX8_goes_26 : decode cX8_goes 26 = .ok (.getfield 28, 3) := by decide +kernel
theorem dX8_goes_29 : decode cX8_goes 29 = .ok (.iload 6, 2) := by decide +kernel
theorem dX8_goes_31 : decode cX8_goes 31 = .ok (.iaload, 1) := by decide +kernel
theorem dX8_goes_32 : decode cX8_goes 32 = .ok (.iload_n 2, 1) := by decide +kernel
theorem dX8_goes_33 : decode cX8_goes 33 = .ok (.bipush 8, 2) := by decide +kernel
theorem dX8_goes_35 : decode cX8_goes 35 = .ok (.irem, 1) := by decide +kernel
theorem dX8_goes_36 : decode cX8_goes 36 = .ok (.ishr, 1) := by decide +kernel
theorem dX8_goes_37 : decode cX8_goes 37 = .ok (.iconst 1, 1) := by decide +kernel
theorem dX8_goes_38 : decode cX8_goes 38 = .ok (.iand, 1) := by decide +kernel
theorem dX8_goes_39 : decode cX8_goes 39 = .ok (.iconst 1, 1) := by decide +kernel
theorem dX8_goes_40 : decode cX8_goes 40 = .ok (.if_icmp .ne 13, 3) := by decide +kernel
theorem dX8_goes_43 : decode cX8_goes 43 = .ok (.aload_n 0, 1) := by decide +kernel
theorem dX8_goes_44 : decode cX8_goes 44 = .ok (.getfield 25, 3) := by decide +kernel
theorem dX8_goes_47 : decode cX8_goes 47 = .ok (.iload 6, 2) := by decide +kernel
theorem dX8_goes_49 : decode cX8_goes 49 = .ok (.iaload, 1) := by decide +kernel
theorem dX8_goes_50 : decode cX8_goes 50 = .ok (.goto 4, 3) := by decide +kernel
theorem dX8_goes_53 : decode cX8_goes 53 = .ok (.iconst 0, 1) := by decide +kernel
theorem dX8_goes_54 : decode cX8_goes 54 = .ok (.iadd, 1) := by decide +kernel
theorem dX8_goes_55 : decode cX8_goes 55 = .ok (.iastore, 1) := by decide +kernel
theorem dX8_goes_56 : decode cX8_goes 56 = .ok (.iinc 6 1, 3) := by decide +kernel
theorem dX8_goes_59 : decode cX8_goes 59 = .ok (.goto (-53), 3) := by decide +kernel
theorem dX8_goes_62 : decode cX8_goes 62 = .ok (.iconst 0, 1) := by decide +kernel
theorem dX8_goes_63 : decode cX8_goes 63 = .ok (.istore 6, 2) := by decide +kernel
theorem dX8_goes_65 : decode cX8_goes 65 = .ok (.iload 6, 2) := by decide +kernel
theorem dX8_goes_67 : decode cX8_goes 67 = .ok (.aload_n 0, 1) := by decide +kernel
theorem dX8_goes_68 : decode cX8_goes 68 = .ok (.getfield 154, 3) := by decide +kernel
theorem dX8_goes_71 : decode cX8_goes 71 = .ok (.if_icmp .ge 188, 3) := by decide +kernel
theorem dX8_goes_74 : decode cX8_goes 74 = .ok (.iload_n 3, 1) := by decide +kernel
theorem dX8_goes_75 : decode cX8_goes 75 = .ok (.iload 6, 2) := by decide +kernel
theorem dX8_goes_77 : decode cX8_goes 77 = .ok (.ishr, 1) := by decide +kernel
theorem dX8_goes_78 : decode cX8_goes 78 = .ok (.iconst 1, 1) := by decide +kernel
theorem dX8_goes_79 : decode cX8_goes 79 = .ok (.iand, 1) := by decide +kernel
theorem dX8_goes_80 : decode cX8_goes 80 = .ok (.iconst 1, 1) := by decide +kernel
theorem dX8_goes_81 : decode cX8_goes 81 = .ok (.if_icmp .ne 7, 3) := by decide +kernel
theorem dX8_goes_84 : decode cX8_goes 84 = .ok (.iconst 0, 1) := by decide +kernel
theorem dX8_goes_85 : decode cX8_goes 85 = .ok (.goto 18, 3) := by decide +kernel
theorem dX8_goes_88 : decode cX8_goes 88 = .ok (.aload_n 1, 1) := by decide +kernel
theorem dX8_goes_89 : decode cX8_goes 89 = .ok (.iload 6, 2) := by decide +kernel
theorem dX8_goes_91 : decode cX8_goes 91 = .ok (.iaload, 1) := by decide +kernel
theorem dX8_goes_92 : decode cX8_goes 92 = .ok (.aload_n 0, 1) := by decide +kernel
theorem dX8_goes_93 : decode cX8_goes 93 = .ok (.getfield 22, 3) := by decide +kernel
theorem dX8_goes_96 : decode cX8_goes 96 = .ok (.iload 6, 2) := by decide +kernel
theorem dX8_goes_98 : decode cX8_goes 98 = .ok (.iaload, 1) := by decide +kernel
theorem dX8_goes_99 : decode cX8_goes 99 = .ok (.imul, 1) := by decide +kernel
theorem dX8_goes_100 : decode cX8_goes 100 = .ok (.bipush 10, 2) := by decide +kernel
theorem dX8_goes_102 : decode cX8_goes 102 = .ok (.idiv, 1) := by decide +kernel
theorem dX8_goes_103 : decode cX8_goes 103 = .ok (.istore 7, 2) := by decide +kernel
theorem dX8_goes_105 : decode cX8_goes 105 = .ok (.iload 7, 2) := by decide +kernel
theorem dX8_goes_107 : decode cX8_goes 107 = .ok (.istore 8, 2) := by decide +kernel
theorem dX8_goes_109 : decode cX8_goes 109 = .ok (.iconst 0, 1) := by decide +kernel
theorem dX8_goes_110 : decode cX8_goes 110 = .ok (.istore 9, 2) := by decide +kernel
theorem dX8_goes_112 : decode cX8_goes 112 = .ok (.iload 9, 2) := by decide +kernel
theorem dX8_goes_114 : decode cX8_goes 114 = .ok (.aload_n 0, 1) := by decide +kernel
theorem dX8_goes_115 : decode cX8_goes 115 = .ok (.getfield 154, 3) := by decide +kernel
theorem dX8_goes_118 : decode cX8_goes 118 = .ok (.if_icmp .ge 116, 3) := by decide +kernel
theorem dX8_goes_121 : decode cX8_goes 121 = .ok (.iload 7, 2) := by decide +kernel
theorem dX8_goes_123 : decode cX8_goes 123 = .ok (.aload_n 0, 1) := by decide +kernel
theorem dX8_goes_124 : decode cX8_goes 124 = .ok (.getfield 31, 3) := by decide +kernel
theorem dX8_goes_127 : decode cX8_goes 127 = .ok (.bipush 6, 2) := by decide +kernel
theorem dX8_goes_129 : decode cX8_goes 129 = .ok (.iload 6, 2) := by decide +kernel
theorem dX8_goes_131 : decode cX8_goes 131 = .ok (.imul, 1) := by decide +kernel
theorem dX8_goes_132 : decode cX8_goes 132 = .ok (.iload 9, 2) := by decide +kernel
theorem dX8_goes_134 : decode cX8_goes 134 = .ok (.iadd, 1) := by decide +kernel
theorem dX8_goes_135 : decode cX8_goes 135 = .ok (.iaload, 1) := by decide +kernel
theorem dX8_goes_136 : decode cX8_goes 136 = .ok (.imul, 1) := by decide +kernel
theorem dX8_goes_137 : decode cX8_goes 137 = .ok (.bipush 10, 2) := by decide +kernel
theorem dX8_goes_139 : decode cX8_goes 139 = .ok (.idiv, 1) := by decide +kernel
theorem dX8_goes_140 : decode cX8_goes 140 = .ok (.istore 10, 2) := by decide +kernel
theorem dX8_goes_142 : decode cX8_goes 142 = .ok (.iload 4, 2) := by decide +kernel
theorem dX8_goes_144 : decode cX8_goes 144 = .ok (.iload 9, 2) := by decide +kernel
theorem dX8_goes_146 : decode cX8_goes 146 = .ok (.ishr, 1) := by decide +kernel
theorem dX8_goes_147 : decode cX8_goes 147 = .ok (.iconst 1, 1) := by decide +kernel
theorem dX8_goes_148 : decode cX8_goes 148 = .ok (.iand, 1) := by decide +kernel
theorem dX8_goes_149 : decode cX8_goes 149 = .ok (.iconst 1, 1) := by decide +kernel
theorem dX8_goes_150 : decode cX8_goes 150 = .ok (.if_icmp .ne 7, 3) := by decide +kernel
theorem dX8_goes_153 : decode cX8_goes 153 = .ok (.iconst 1, 1) := by decide +kernel
theorem dX8_goes_154 : decode cX8_goes 154 = .ok (.goto 4, 3) := by decide +kernel
theorem dX8_goes_157 : decode cX8_goes 157 = .ok (.iconst 0, 1) := by decide +kernel
theorem dX8_goes_158 : decode cX8_goes 158 = .ok (.istore 11, 2) := by decide +kernel
theorem dX8_goes_160 : decode cX8_goes 160 = .ok (.iload 11, 2) := by decide +kernel
theorem dX8_goes_162 : decode cX8_goes 162 = .ok (.ifCond .ne 12, 3) := by decide +kernel
theorem dX8_goes_165 : decode cX8_goes 165 = .ok (.iload_n 3, 1) := by decide +kernel
theorem dX8_goes_166 : decode cX8_goes 166 = .ok (.iload 9, 2) := by decide +kernel
theorem dX8_goes_168 : decode cX8_goes 168 = .ok (.ishr, 1) := by decide +kernel
theorem dX8_goes_169 : decode cX8_goes 169 = .ok (.iconst 1, 1) := by decide +kernel
theorem dX8_goes_170 : decode cX8_goes 170 = .ok (.iand, 1) := by decide +kernel
theorem dX8_goes_171 : decode cX8_goes 171 = .ok (.ifCond .ne 7, 3) := by decide +kernel
theorem dX8_goes_174 : decode cX8_goes 174 = .ok (.iconst 1, 1) := by decide +kernel
theorem dX8_goes_175 : decode cX8_goes 175 = .ok (.goto 4, 3) := by decide +kernel
theorem dX8_goes_178 : decode cX8_goes 178 = .ok (.iconst 0, 1) := by decide +kernel
theorem dX8_goes_179 : decode cX8_goes 179 = .ok (.istore 12, 2) := by decide +kernel
theorem dX8_goes_181 : decode cX8_goes 181 = .ok (.aload_n 0, 1) := by decide +kernel
theorem dX8_goes_182 : decode cX8_goes 182 = .ok (.getfield 37, 3) := by decide +kernel
theorem dX8_goes_185 : decode cX8_goes 185 = .ok (.iload 11, 2) := by decide +kernel
theorem dX8_goes_187 : decode cX8_goes 187 = .ok (.ifCond .eq 8, 3) := by decide +kernel
theorem dX8_goes_190 : decode cX8_goes 190 = .ok (.iload 6, 2) := by decide +kernel
theorem dX8_goes_192 : decode cX8_goes 192 = .ok (.goto 5, 3) := by decide +kernel
theorem dX8_goes_195 : decode cX8_goes 195 = .ok (.iload 9, 2) := by decide +kernel
theorem dX8_goes_197 : decode cX8_goes 197 = .ok (.dup2, 1) := by decide +kernel
theorem dX8_goes_198 : decode cX8_goes 198 = .ok (.iaload, 1) := by decide +kernel
theorem dX8_goes_199 : decode cX8_goes 199 = .ok (.iload 12, 2) := by decide +kernel
theorem dX8_goes_201 : decode cX8_goes 201 = .ok (.ifCond .eq 8, 3) := by decide +kernel
theorem dX8_goes_204 : decode cX8_goes 204 = .ok (.iload 10, 2) := by decide +kernel
theorem dX8_goes_206 : decode cX8_goes 206 = .ok (.goto 4, 3) := by decide +kernel
theorem dX8_goes_209 : decode cX8_goes 209 = .ok (.iconst 0, 1) := by decide +kernel
theorem dX8_goes_210 : decode cX8_goes 210 = .ok (.iadd, 1) := by decide +kernel
theorem dX8_goes_211 : decode cX8_goes 211 = .ok (.iastore, 1) := by decide +kernel
theorem dX8_goes_212 : decode cX8_goes 212 = .ok (.iload 8, 2) := by decide +kernel
theorem dX8_goes_214 : decode cX8_goes 214 = .ok (.iload 12, 2) := by decide +kernel
theorem dX8_goes_216 : decode cX8_goes 216 = .ok (.ifCond .eq 8, 3) := by decide +kernel
theorem dX8_goes_219 : decode cX8_goes 219 = .ok (.iload 10, 2) := by decide +kernel
theorem dX8_goes_221 : decode cX8_goes 221 = .ok (.goto 4, 3) := by decide +kernel
theorem dX8_goes_224 : decode cX8_goes 224 = .ok (.iconst 0, 1) := by decide +kernel
theorem dX8_goes_225 : decode cX8_goes 225 = .ok (.isub, 1) := by decide +kernel
theorem dX8_goes_226 : decode cX8_goes 226 = .ok (.istore 8, 2) := by decide +kernel
theorem dX8_goes_228 : decode cX8_goes 228 = .ok (.iinc 9 1, 3) := by decide +kernel
theorem dX8_goes_231 : decode cX8_goes 231 = .ok (.goto (-119), 3) := by decide +kernel
theorem dX8_goes_234 : decode cX8_goes 234 = .ok (.aload_n 0, 1) := by decide +kernel
theorem dX8_goes_235 : decode cX8_goes 235 = .ok (.getfield 37, 3) := by decide +kernel
theorem dX8_goes_238 : decode cX8_goes 238 = .ok (.iload 6, 2) := by decide +kernel
theorem dX8_goes_240 : decode cX8_goes 240 = .ok (.dup2, 1) := by decide +kernel
theorem dX8_goes_241 : decode cX8_goes 241 = .ok (.iaload, 1) := by decide +kernel
theorem dX8_goes_242 : decode cX8_goes 242 = .ok (.iload 7, 2) := by decide +kernel
theorem dX8_goes_244 : decode cX8_goes 244 = .ok (.isub, 1) := by decide +kernel
theorem dX8_goes_245 : decode cX8_goes 245 = .ok (.iastore, 1) := by decide +kernel
theorem dX8_goes_246 : decode cX8_goes 246 = .ok (.iload 5, 2) := by decide +kernel
theorem dX8_goes_248 : decode cX8_goes 248 = .ok (.iload 8, 2) := by decide +kernel
theorem dX8_goes_250 : decode cX8_goes 250 = .ok (.iadd, 1) := by decide +kernel
theorem dX8_goes_251 : decode cX8_goes 251 = .ok (.istore 5, 2) := by decide +kernel
theorem dX8_goes_253 : decode cX8_goes 253 = .ok (.iinc 6 1, 3) := by decide +kernel
theorem dX8_goes_256 : decode cX8_goes 256 = .ok (.goto (-191), 3) := by decide +kernel
theorem dX8_goes_259 : decode cX8_goes 259 = .ok (.iconst 0, 1) := by decide +kernel
theorem dX8_goes_260 : decode cX8_goes 260 = .ok (.istore 6, 2) := by decide +kernel
theorem dX8_goes_262 : decode cX8_goes 262 = .ok (.iload 6, 2) := by decide +kernel
theorem dX8_goes_264 : decode cX8_goes 264 = .ok (.aload_n 0, 1) := by decide +kernel
theorem dX8_goes_265 : decode cX8_goes 265 = .ok (.getfield 154, 3) := by decide +kernel
theorem dX8_goes_268 : decode cX8_goes 268 = .ok (.if_icmp .ge 20, 3) := by decide +kernel
theorem dX8_goes_271 : decode cX8_goes 271 = .ok (.aload_n 1, 1) := by decide +kernel
theorem dX8_goes_272 : decode cX8_goes 272 = .ok (.iload 6, 2) := by decide +kernel
theorem dX8_goes_274 : decode cX8_goes 274 = .ok (.aload_n 0, 1) := by decide +kernel
theorem dX8_goes_275 : decode cX8_goes 275 = .ok (.getfield 37, 3) := by decide +kernel
theorem dX8_goes_278 : decode cX8_goes 278 = .ok (.iload 6, 2) := by decide +kernel
theorem dX8_goes_280 : decode cX8_goes 280 = .ok (.iaload, 1) := by decide +kernel
theorem dX8_goes_281 : decode cX8_goes 281 = .ok (.iastore, 1) := by decide +kernel
theorem dX8_goes_282 : decode cX8_goes 282 = .ok (.iinc 6 1, 3) := by decide +kernel
theorem dX8_goes_285 : decode cX8_goes 285 = .ok (.goto (-23), 3) := by decide +kernel
theorem dX8_goes_288 : decode cX8_goes 288 = .ok (.iload 5, 2) := by decide +kernel
theorem dX8_goes_290 : decode cX8_goes 290 = .ok (.ireturn, 1) := by decide +kernel
set_option maxRecDepth 20000 in
theorem ggX8_hour_X8_goes : GoodIn wsX8_hour wsX8_goes := goodIn_r _ [10, 11, 12, 13, 14, 15, 16, 17, 18, 19, 20, 21, 22, 23, 24, 25, 26, 27, 28, 29, 30, 31, 32, 33, 34, 35, 36, 37, 38, 39, 40, 41, 42, 43, 44, 45, 46, 47, 48, 49] (by decide +kernel) (by decide +kernel)
set_option maxRecDepth 20000 in
theorem gX8_hour_X8_goes : GoodIn wsX8_hour (wsV RX8 178 RX8 yX8_goes wsX8_goes) := goodIn_app (goodIn_of _ (by decide +kernel)) ggX8_hour_X8_goes
theorem dX8_hour_0 : decode cX8_hour 0 = .ok (.aload_n 0, 1) := by decide +kernel
theorem dX8_hour_1 : decode cX8_hour 1 = .ok (.getfield 157, 3) := by decide +kernel
theorem dX8_hour_4 : decode cX8_hour 4 = .ok (.sipush 999, 3) := by decide +kernel
theorem dX8_hour_7 : decode cX8_hour 7 = .ok (.if_icmp .ne 6, 3) := by decide +kernel
theorem dX8_hour_10 : decode cX8_hour 10 = .ok (.bipush (-2), 2) := by decide +kernel
theorem dX8_hour_12 : decode cX8_hour 12 = .ok (.ireturn, 1) := by decide +kernel
theorem dX8_hour_13 : decode cX8_hour 13 = .ok (.aload_n 0, 1) := by decide +kernel
theorem dX8_hour_14 : decode cX8_hour 14 = .ok (.aload_n 0, 1) := by decide +kernel
theorem dX8_hour_15 : decode cX8_hour 15 = .ok (.getfield 34, 3) := by decide +kernel
theorem dX8_hour_18 : decode cX8_hour 18 = .ok (.aload_n 0, 1) := by decide +kernel
theorem dX8_hour_19 : decode cX8_hour 19 = .ok (.getfield 157, 3) := by decide +kernel
theorem dX8_hour_22 : decode cX8_hour 22 = .ok (.aload_n 0, 1) := by decide +kernel
theorem dX8_hour_23 : decode cX8_hour 23 = .ok (.getfield 160, 3) := by decide +kernel
theorem dX8_hour_26 : decode cX8_hour 26 = .ok (.aload_n 0, 1) := by decide +kernel
theorem dX8_hour_27 : decode cX8_hour 27 = .ok (.getfield 163, 3) := by decide +kernel
theorem dX8_hour_30 : decode cX8_hour 30 = .ok (.invokevirtual 178, 3) := by decide +kernel
theorem dX8_hour_33 : decode cX8_hour 33 = .ok (.istore_n 1, 1) := by decide +kernel
theorem dX8_hour_34 : decode cX8_hour 34 = .ok (.aload_n 0, 1) := by decide +kernel
theorem dX8_hour_35 : decode cX8_hour 35 = .ok (.dup, 1) := by decide +kernel
theorem dX8_hour_36 : decode cX8_hour 36 = .ok (.getfield 166, 3) := by decide +kernel
theorem dX8_hour_39 : decode cX8_hour 39 = .ok (.iload_n 1, 1) := by decide +kernel
theorem dX8_hour_40 : decode cX8_hour 40 = .ok (.iadd, 1) := by decide +kernel
theorem dX8_hour_41 : decode cX8_hour 41 = .ok (.putfield 166, 3) := by decide +kernel
theorem dX8_hour_44 : decode cX8_hour 44 = .ok (.aload_n 0, 1) := by decide +kernel
theorem dX8_hour_45 : decode cX8_hour 45 = .ok (.dup, 1) := by decide +kernel
theorem dX8_hour_46 : decode cX8_hour 46 = .ok (.getfield 157, 3) := by decide +kernel
theorem dX8_hour_49 : decode cX8_hour 49 = .ok (.iconst 1, 1) := by decide +kernel
theorem dX8_hour_50 : decode cX8_hour 50 = .ok (.iadd, 1) := by decide +kernel
theorem dX8_hour_51 : decode cX8_hour 51 = .ok (.putfield 157, 3) := by decide +kernel
theorem dX8_hour_54 : decode cX8_hour 54 = .ok (.iload_n 1, 1) := by decide +kernel
theorem dX8_hour_55 : decode cX8_hour 55 = .ok (.ireturn, 1) := by decide +kernel
theorem dX8_notes_0 : decode cX8_notes 0 = .ok (.aload_n 0, 1) := by decide +kernel
theorem dX8_notes_1 : decode cX8_notes 1 = .ok (.getfield 169, 3) := by decide +kernel
theorem dX8_notes_4 : decode cX8_notes 4 = .ok (.bipush 10, 2) := by decide +kernel
theorem dX8_notes_6 : decode cX8_notes 6 = .ok (.if_icmp .ne 37, 3) := by decide +kernel
theorem dX8_notes_9 : decode cX8_notes 9 = .ok (.iconst 1, 1) := by decide +kernel
theorem dX8_notes_10 : decode cX8_notes 10 = .ok (.istore_n 2, 1) := by decide +kernel
theorem dX8_notes_11 : decode cX8_notes 11 = .ok (.iload_n 2, 1) := by decide +kernel
theorem dX8_notes_12 : decode cX8_notes 12 = .ok (.bipush 10, 2) := by decide +kernel
theorem dX8_notes_14 : decode cX8_notes 14 = .ok (.if_icmp .ge 23, 3) := by decide +kernel
theorem dX8_notes_17 : decode cX8_notes 17 = .ok (.aload_n 0, 1) := by decide +kernel
theorem dX8_notes_18 : decode cX8_notes 18 = .ok (.getfield 40, 3) := by decide +kernel
theorem dX8_notes_21 : decode cX8_notes 21 = .ok (.iload_n 2, 1) := by decide +kernel
theorem dX8_notes_22 : decode cX8_notes 22 = .ok (.iconst 1, 1) := by decide +kernel
theorem dX8_notes_23 : decode cX8_notes 23 = .ok (.isub, 1) := by decide +kernel
theorem dX8_notes_24 : decode cX8_notes 24 = .ok (.aload_n 0, 1) := by decide +kernel
theorem dX8_notes_25 : decode cX8_notes 25 = .ok (.getfield 40, 3) := by decide +kernel
theorem dX8_notes_28 : decode cX8_notes 28 = .ok (.iload_n 2, 1) := by decide +kernel
theorem dX8_notes_29 : decode cX8_notes 29 = .ok (.iaload, 1) := by decide +kernel
theorem dX8_notes_30 : decode cX8_notes 30 = .ok (.iastore, 1) := by decide +kernel
theorem dX8_notes_31 : decode cX8_notes 31 = .ok (.iinc 2 1, 3) := by decide +kernel
theorem dX8_notes_34 : decode cX8_notes 34 = .ok (.goto (-23), 3) := by decide +kernel
theorem dX8_notes_37 : decode cX8_notes 37 = .ok (.aload_n 0, 1) := by decide +kernel
theorem dX8_notes_38 : decode cX8_notes 38 = .ok (.bipush 9, 2) := by decide +kernel
theorem dX8_notes_40 : decode cX8_notes 40 = .ok (.putfield 169, 3) := by decide +kernel
theorem dX8_notes_43 : decode cX8_notes 43 = .ok (.aload_n 0, 1) := by decide +kernel
theorem dX8_notes_44 : decode cX8_notes 44 = .ok (.getfield 40, 3) := by decide +kernel
theorem dX8_notes_47 : decode cX8_notes 47 = .ok (.aload_n 0, 1) := by decide +kernel
theorem dX8_notes_48 : decode cX8_notes 48 = .ok (.getfield 169, 3) := by decide +kernel
theorem dX8_notes_51 : decode cX8_notes 51 = .ok (.iload_n 1, 1) := by decide +kernel
theorem dX8_notes_52 : decode cX8_notes 52 = .ok (.iastore, 1) := by decide +kernel
theorem dX8_notes_53 : decode cX8_notes 53 = .ok (.aload_n 0, 1) := by decide +kernel
theorem dX8_notes_54 : decode cX8_notes 54 = .ok (.dup, 1) := by decide +kernel
theorem dX8_notes_55 : decode cX8_notes 55 = .ok (.getfield 169, 3) := by decide +kernel
theorem dX8_notes_58 : decode cX8_notes 58 = .ok (.iconst 1, 1) := by decide +kernel
theorem dX8_notes_59 : decode cX8_notes 59 = .ok (.iadd, 1) := by decide +kernel
theorem dX8_notes_60 : decode cX8_notes 60 = .ok (.putfield 169, 3) := by decide +kernel
theorem dX8_notes_63 : decode cX8_notes 63 = .ok (.return_, 1) := by decide +kernel
theorem dX8_many_0 : decode cX8_many 0 = .ok (.iconst 0, 1) := by decide +kernel
theorem dX8_many_1 : decode cX8_many 1 = .ok (.istore_n 1, 1) := by decide +kernel
theorem dX8_many_2 : decode cX8_many 2 = .ok (.iload_n 0, 1) := by decide +kernel
theorem dX8_many_3 : decode cX8_many 3 = .ok (.istore_n 2, 1) := by decide +kernel
theorem dX8_many_4 : decode cX8_many 4 = .ok (.iload_n 2, 1) := by decide +kernel
theorem dX8_many_5 : decode cX8_many 5 = .ok (.ifCond .eq 15, 3) := by decide +kernel
theorem dX8_many_8 : decode cX8_many 8 = .ok (.iinc 1 1, 3) := by decide +kernel
theorem dX8_many_11 : decode cX8_many 11 = .ok (.iload_n 2, 1) := by decide +kernel
theorem dX8_many_12 : decode cX8_many 12 = .ok (.iload_n 2, 1) := by decide +kernel
theorem dX8_many_13 : decode cX8_many 13 = .ok (.iconst 1, 1) := by decide +kernel
theorem dX8_many_14 : decode cX8_many 14 = .ok (.isub, 1) := by decide +kernel
theorem dX8_many_15 : decode cX8_many 15 = .ok (.iand, 1) := by decide +kernel
theorem dX8_many_16 : decode cX8_many 16 = .ok (.istore_n 2, 1) := by decide +kernel
theorem dX8_many_17 : decode cX8_many 17 = .ok (.goto (-13), 3) := by decide +kernel
theorem dX8_many_20 : decode cX8_many 20 = .ok (.iload_n 1, 1) := by decide +kernel
theorem dX8_many_21 : decode cX8_many 21 = .ok (.ireturn, 1) := by decide +kernel
set_option maxRecDepth 20000 in
theorem ggX8_shut_X8_isWall : GoodIn wsX8_shut wsX8_isWall := goodIn_r _ [6, 7, 8, 9, 5, 10, 20, 21, 22, 23, 24, 25, 26, 27, 28, 29, 30, 31, 32, 33, 34, 35, 36, 37, 38, 39, 40, 41, 42, 43, 44, 45, 46, 47, 48, 49, 50, 51, 52] (by decide +kernel) (by decide +kernel)
set_option maxRecDepth 20000 in
theorem gX8_shut_X8_isWall : GoodIn wsX8_shut (wsV RX8 175 RX8 yX8_isWall wsX8_isWall) := goodIn_app (goodIn_of _ (by decide +kernel)) ggX8_shut_X8_isWall
set_option maxRecDepth 20000 in
theorem ggX8_shut_X8_in : GoodIn wsX8_shut wsX8_in := goodIn_r _ [10] (by decide +kernel) (by decide +kernel)
set_option maxRecDepth 20000 in
theorem gX8_shut_X8_in : GoodIn wsX8_shut (va_wsS RX8 67 yX8_in wsX8_in) := goodIn_app (goodIn_of _ (by decide +kernel)) ggX8_shut_X8_in
set_option maxRecDepth 20000 in
theorem ggX8_shut_X8_notes : GoodIn wsX8_shut wsX8_notes := goodIn_r _ [14, 15, 16, 20, 21, 22, 23, 24, 25, 26, 27, 28, 29, 30, 31, 32, 33, 34, 35, 36, 37, 38, 39, 40, 41, 42, 43, 44, 45, 46, 47, 48, 49, 50, 51, 52] (by decide +kernel) (by decide +kernel)
set_option maxRecDepth 20000 in
theorem gX8_shut_X8_notes : GoodIn wsX8_shut (wsV RX8 182 RX8 yX8_notes wsX8_notes) := goodIn_app (goodIn_of _ (by decide +kernel)) ggX8_shut_X8_notes
set_option maxRecDepth 20000 in
theorem ggX8_shut_X8_many : GoodIn wsX8_shut wsX8_many := goodIn_r _ [19] (by decide +kernel) (by decide +kernel)
set_option maxRecDepth 20000 in
theorem gX8_shut_X8_many : GoodIn wsX8_shut (va_wsS RX8 186 yX8_many wsX8_many) := goodIn_app (goodIn_of _ (by decide +kernel)) ggX8_shut_X8_many
theorem dX8_shut_0 : decode cX8_shut 0 = .ok (.aload_n 0, 1) := by decide +kernel
theorem dX8_shut_1 : decode cX8_shut 1 = .ok (.iload_n 1, 1) := by decide +kernel
theorem dX8_shut_2 : decode cX8_shut 2 = .ok (.invokevirtual 175, 3) := by decide +kernel
theorem dX8_shut_5 : decode cX8_shut 5 = .ok (.ifCond .eq 13, 3) := by decide +kernel
theorem dX8_shut_8 : decode cX8_shut 8 = .ok (.iload_n 2, 1) := by decide +kernel
theorem dX8_shut_9 : decode cX8_shut 9 = .ok (.i2l, 1) := by decide +kernel
theorem dX8_shut_10 : decode cX8_shut 10 = .ok (.lconst 0, 1) := by decide +kernel
theorem dX8_shut_11 : decode cX8_shut 11 = .ok (.lconst 1, 1) := by decide +kernel
theorem dX8_shut_12 : decode cX8_shut 12 = .ok (.invokestatic 67, 3) := by decide +kernel
theorem dX8_shut_15 : decode cX8_shut 15 = .ok (.ifCond .ne 5, 3) := by decide +kernel
theorem dX8_shut_18 : decode cX8_shut 18 = .ok (.iconst (-1), 1) := by decide +kernel
theorem dX8_shut_19 : decode cX8_shut 19 = .ok (.ireturn, 1) := by decide +kernel
theorem dX8_shut_20 : decode cX8_shut 20 = .ok (.aload_n 0, 1) := by decide +kernel
theorem dX8_shut_21 : decode cX8_shut 21 = .ok (.getfield 160, 3) := by decide +kernel
theorem dX8_shut_24 : decode cX8_shut 24 = .ok (.iload_n 1, 1) := by decide +kernel
theorem dX8_shut_25 : decode cX8_shut 25 = .ok (.ishr, 1) := by decide +kernel
theorem dX8_shut_26 : decode cX8_shut 26 = .ok (.iconst 1, 1) := by decide +kernel
theorem dX8_shut_27 : decode cX8_shut 27 = .ok (.iand, 1) := by decide +kernel
theorem dX8_shut_28 : decode cX8_shut 28 = .ok (.iload_n 2, 1) := by decide +kernel
theorem dX8_shut_29 : decode cX8_shut 29 = .ok (.if_icmp .ne 6, 3) := by decide +kernel
theorem dX8_shut_32 : decode cX8_shut 32 = .ok (.bipush (-2), 2) := by decide +kernel
theorem dX8_shut_34 : decode cX8_shut 34 = .ok (.ireturn, 1) := by decide +kernel
theorem dX8_shut_35 : decode cX8_shut 35 = .ok (.aload_n 0, 1) := by decide +kernel
theorem dX8_shut_36 : decode cX8_shut 36 = .ok (.dup, 1) := by decide +kernel
theorem dX8_shut_37 : decode cX8_shut 37 = .ok (.getfield 160, 3) := by decide +kernel
theorem dX8_shut_40 : decode cX8_shut 40 = .ok (.iconst 1, 1) := by decide +kernel
theorem dX8_shut_41 : decode cX8_shut 41 = .ok (.iload_n 1, 1) := by decide +kernel
theorem dX8_shut_42 : decode cX8_shut 42 = .ok (.ishl, 1) := by decide +kernel
theorem dX8_shut_43 : decode cX8_shut 43 = .ok (.ixor, 1) := by decide +kernel
theorem dX8_shut_44 : decode cX8_shut 44 = .ok (.putfield 160, 3) := by decide +kernel
theorem dX8_shut_47 : decode cX8_shut 47 = .ok (.aload_n 0, 1) := by decide +kernel
theorem dX8_shut_48 : decode cX8_shut 48 = .ok (.iload_n 1, 1) := by decide +kernel
theorem dX8_shut_49 : decode cX8_shut 49 = .ok (.invokevirtual 182, 3) := by decide +kernel
theorem dX8_shut_52 : decode cX8_shut 52 = .ok (.aload_n 0, 1) := by decide +kernel
theorem dX8_shut_53 : decode cX8_shut 53 = .ok (.getfield 160, 3) := by decide +kernel
theorem dX8_shut_56 : decode cX8_shut 56 = .ok (.invokestatic 186, 3) := by decide +kernel
theorem dX8_shut_59 : decode cX8_shut 59 = .ok (.ireturn, 1) := by decide +kernel
set_option maxRecDepth 20000 in
theorem ggX8_mirror_X8_isWall : GoodIn wsX8_mirror wsX8_isWall := goodIn_r _ [6, 7, 8, 9, 5, 10, 20, 21, 22, 23, 24, 25, 26, 27, 28, 29, 30, 31, 32, 33, 34, 35, 36, 37, 38, 39, 40, 41, 42, 43, 44, 45, 46, 47, 48, 49, 50, 51, 52] (by decide +kernel) (by decide +kernel)
set_option maxRecDepth 20000 in
theorem gX8_mirror_X8_isWall : GoodIn wsX8_mirror (wsV RX8 175 RX8 yX8_isWall wsX8_isWall) := goodIn_app (goodIn_of _ (by decide +kernel)) ggX8_mirror_X8_isWall
set_option maxRecDepth 20000 in
theorem ggX8_mirror_X8_in : GoodIn wsX8_mirror wsX8_in := goodIn_r _ [10] (by decide +kernel) (by decide +kernel)
set_option maxRecDepth 20000 in
theorem gX8_mirror_X8_in : GoodIn wsX8_mirror (va_wsS RX8 67 yX8_in wsX8_in) := goodIn_app (goodIn_of _ (by decide +kernel)) ggX8_mirror_X8_in
set_option maxRecDepth 20000 in
theorem ggX8_mirror_X8_notes : GoodIn wsX8_mirror wsX8_notes := goodIn_r _ [14, 15, 16, 20, 21, 22, 23, 24, 25, 26, 27, 28, 29, 30, 31, 32, 33, 34, 35, 36, 37, 38, 39, 40, 41, 42, 43, 44, 45, 46, 47, 48, 49, 50, 51, 52] (by decide +kernel) (by decide +kernel)
set_option maxRecDepth 20000 in
theorem gX8_mirror_X8_notes : GoodIn wsX8_mirror (wsV RX8 182 RX8 yX8_notes wsX8_notes) := goodIn_app (goodIn_of _ (by decide +kernel)) ggX8_mirror_X8_notes
set_option maxRecDepth 20000 in
theorem ggX8_mirror_X8_many : GoodIn wsX8_mirror wsX8_many := goodIn_r _ [19] (by decide +kernel) (by decide +kernel)
set_option maxRecDepth 20000 in
theorem gX8_mirror_X8_many : GoodIn wsX8_mirror (va_wsS RX8 186 yX8_many wsX8_many) := goodIn_app (goodIn_of _ (by decide +kernel)) ggX8_mirror_X8_many
theorem dX8_mirror_0 : decode cX8_mirror 0 = .ok (.aload_n 0, 1) := by decide +kernel
theorem dX8_mirror_1 : decode cX8_mirror 1 = .ok (.iload_n 1, 1) := by decide +kernel
theorem dX8_mirror_2 : decode cX8_mirror 2 = .ok (.invokevirtual 175, 3) := by decide +kernel
theorem dX8_mirror_5 : decode cX8_mirror 5 = .ok (.ifCond .eq 13, 3) := by decide +kernel
theorem dX8_mirror_8 : decode cX8_mirror 8 = .ok (.iload_n 2, 1) := by decide +kernel
theorem dX8_mirror_9 : decode cX8_mirror 9 = .ok (.i2l, 1) := by decide +kernel
theorem dX8_mirror_10 : decode cX8_mirror 10 = .ok (.lconst 0, 1) := by decide +kernel
theorem dX8_mirror_11 : decode cX8_mirror 11 = .ok (.lconst 1, 1) := by decide +kernel
theorem dX8_mirror_12 : decode cX8_mirror 12 = .ok (.invokestatic 67, 3) := by decide +kernel
theorem dX8_mirror_15 : decode cX8_mirror 15 = .ok (.ifCond .ne 5, 3) := by decide +kernel
theorem dX8_mirror_18 : decode cX8_mirror 18 = .ok (.iconst (-1), 1) := by decide +kernel
theorem dX8_mirror_19 : decode cX8_mirror 19 = .ok (.ireturn, 1) := by decide +kernel
theorem dX8_mirror_20 : decode cX8_mirror 20 = .ok (.aload_n 0, 1) := by decide +kernel
theorem dX8_mirror_21 : decode cX8_mirror 21 = .ok (.getfield 163, 3) := by decide +kernel
theorem dX8_mirror_24 : decode cX8_mirror 24 = .ok (.iload_n 1, 1) := by decide +kernel
theorem dX8_mirror_25 : decode cX8_mirror 25 = .ok (.ishr, 1) := by decide +kernel
theorem dX8_mirror_26 : decode cX8_mirror 26 = .ok (.iconst 1, 1) := by decide +kernel
theorem dX8_mirror_27 : decode cX8_mirror 27 = .ok (.iand, 1) := by decide +kernel
theorem dX8_mirror_28 : decode cX8_mirror 28 = .ok (.iload_n 2, 1) := by decide +kernel
theorem dX8_mirror_29 : decode cX8_mirror 29 = .ok (.if_icmp .ne 6, 3) := by decide +kernel
theorem dX8_mirror_32 : decode cX8_mirror 32 = .ok (.bipush (-2), 2) := by decide +kernel
theorem dX8_mirror_34 : decode cX8_mirror 34 = .ok (.ireturn, 1) := by decide +kernel
theorem dX8_mirror_35 : decode cX8_mirror 35 = .ok (.aload_n 0, 1) := by decide +kernel
theorem dX8_mirror_36 : decode cX8_mirror 36 = .ok (.dup, 1) := by decide +kernel
theorem dX8_mirror_37 : decode cX8_mirror 37 = .ok (.getfield 163, 3) := by decide +kernel
theorem dX8_mirror_40 : decode cX8_mirror 40 = .ok (.iconst 1, 1) := by decide +kernel
theorem dX8_mirror_41 : decode cX8_mirror 41 = .ok (.iload_n 1, 1) := by decide +kernel
theorem dX8_mirror_42 : decode cX8_mirror 42 = .ok (.ishl, 1) := by decide +kernel
theorem dX8_mirror_43 : decode cX8_mirror 43 = .ok (.ixor, 1) := by decide +kernel
theorem dX8_mirror_44 : decode cX8_mirror 44 = .ok (.putfield 163, 3) := by decide +kernel
theorem dX8_mirror_47 : decode cX8_mirror 47 = .ok (.aload_n 0, 1) := by decide +kernel
theorem dX8_mirror_48 : decode cX8_mirror 48 = .ok (.bipush 8, 2) := by decide +kernel
theorem dX8_mirror_50 : decode cX8_mirror 50 = .ok (.iload_n 1, 1) := by decide +kernel
theorem dX8_mirror_51 : decode cX8_mirror 51 = .ok (.iadd, 1) := by decide +kernel
theorem dX8_mirror_52 : decode cX8_mirror 52 = .ok (.invokevirtual 182, 3) := by decide +kernel
theorem dX8_mirror_55 : decode cX8_mirror 55 = .ok (.aload_n 0, 1) := by decide +kernel
theorem dX8_mirror_56 : decode cX8_mirror 56 = .ok (.getfield 163, 3) := by decide +kernel
theorem dX8_mirror_59 : decode cX8_mirror 59 = .ok (.invokestatic 186, 3) := by decide +kernel
theorem dX8_mirror_62 : decode cX8_mirror 62 = .ok (.ireturn, 1) := by decide +kernel
theorem dX8_undo_0 : decode cX8_undo 0 = .ok (.aload_n 0, 1) := by decide +kernel
theorem dX8_undo_1 : decode cX8_undo 1 = .ok (.getfield 169, 3) := by decide +kernel
theorem dX8_undo_4 : decode cX8_undo 4 = .ok (.ifCond .ne 6, 3) := by decide +kernel
theorem dX8_undo_7 : decode cX8_undo 7 = .ok (.bipush (-2), 2) := by decide +kernel
theorem dX8_undo_9 : decode cX8_undo 9 = .ok (.ireturn, 1) := by decide +kernel
theorem dX8_undo_10 : decode cX8_undo 10 = .ok (.aload_n 0, 1) := by decide +kernel
theorem dX8_undo_11 : decode cX8_undo 11 = .ok (.dup, 1) := by decide +kernel
theorem dX8_undo_12 : decode cX8_undo 12 = .ok (.getfield 169, 3) := by decide +kernel
theorem dX8_undo_15 : decode cX8_undo 15 = .ok (.iconst 1, 1) := by decide +kernel
theorem dX8_undo_16 : decode cX8_undo 16 = .ok (.isub, 1) := by decide +kernel
theorem dX8_undo_17 : decode cX8_undo 17 = .ok (.putfield 169, 3) := by decide +kernel
theorem dX8_undo_20 : decode cX8_undo 20 = .ok (.aload_n 0, 1) := by decide +kernel
theorem dX8_undo_21 : decode cX8_undo 21 = .ok (.getfield 40, 3) := by decide +kernel
theorem dX8_undo_24 : decode cX8_undo 24 = .ok (.aload_n 0, 1) := by decide +kernel
theorem dX8_undo_25 : decode cX8_undo 25 = .ok (.getfield 169, 3) := by decide +kernel
theorem dX8_undo_28 : decode cX8_undo 28 = .ok (.iaload, 1) := by decide +kernel
theorem dX8_undo_29 : decode cX8_undo 29 = .ok (.istore_n 1, 1) := by decide +kernel
theorem dX8_undo_30 : decode cX8_undo 30 = .ok (.aload_n 0, 1) := by decide +kernel
theorem dX8_undo_31 : decode cX8_undo 31 = .ok (.dup, 1) := by decide +kernel
theorem dX8_undo_32 : decode cX8_undo 32 = .ok (.getfield 160, 3) := by decide +kernel
theorem dX8_undo_35 : decode cX8_undo 35 = .ok (.iload_n 1, 1) := by decide +kernel
theorem dX8_undo_36 : decode cX8_undo 36 = .ok (.bipush 8, 2) := by decide +kernel
theorem dX8_undo_38 : decode cX8_undo 38 = .ok (.if_icmp .ge 9, 3) := by decide +kernel
theorem dX8_undo_41 : decode cX8_undo 41 = .ok (.iconst 1, 1) := by decide +kernel
theorem dX8_undo_42 : decode cX8_undo 42 = .ok (.iload_n 1, 1) := by decide +kernel
theorem dX8_undo_43 : decode cX8_undo 43 = .ok (.ishl, 1) := by decide +kernel
theorem dX8_undo_44 : decode cX8_undo 44 = .ok (.goto 4, 3) := by decide +kernel
theorem dX8_undo_47 : decode cX8_undo 47 = .ok (.iconst 0, 1) := by decide +kernel
theorem dX8_undo_48 : decode cX8_undo 48 = .ok (.ixor, 1) := by decide +kernel
theorem dX8_undo_49 : decode cX8_undo 49 = .ok (.putfield 160, 3) := by decide +kernel
theorem dX8_undo_52 : decode cX8_undo 52 = .ok (.aload_n 0, 1) := by decide +kernel
theorem dX8_undo_53 : decode cX8_undo 53 = .ok (.dup, 1) := by decide +kernel
theorem dX8_undo_54 : decode cX8_undo 54 = .ok (.getfield 163, 3) := by decide +kernel
theorem dX8_undo_57 : decode cX8_undo 57 = .ok (.iload_n 1, 1) := by decide +kernel
theorem dX8_undo_58 : decode cX8_undo 58 = .ok (.bipush 8, 2) := by decide +kernel
theorem dX8_undo_60 : decode cX8_undo 60 = .ok (.if_icmp .ge 7, 3) := by decide +kernel
theorem dX8_undo_63 : decode cX8_undo 63 = .ok (.iconst 0, 1) := by decide +kernel
theorem dX8_undo_64 : decode cX8_undo 64 = .ok (.goto 9, 3) := by decide +kernel
theorem dX8_undo_67 : decode cX8_undo 67 = .ok (.iconst 1, 1) := by decide +kernel
theorem dX8_undo_68 : decode cX8_undo 68 = .ok (.iload_n 1, 1) := by decide +kernel
theorem dX8_undo_69 : decode cX8_undo 69 = .ok (.bipush 8, 2) := by decide +kernel
theorem dX8_undo_71 : decode cX8_undo 71 = .ok (.isub, 1) := by decide +kernel
theorem dX8_undo_72 : decode cX8_undo 72 = .ok (.ishl, 1) := by decide +kernel
theorem dX8_undo_73 : decode cX8_undo 73 = .ok (.ixor, 1) := by decide +kernel
theorem dX8_undo_74 : decode cX8_undo 74 = .ok (.putfield 163, 3) := by decide +kernel
theorem dX8_undo_77 : decode cX8_undo 77 = .ok (.aload_n 0, 1) := by decide +kernel
theorem dX8_undo_78 : decode cX8_undo 78 = .ok (.getfield 169, 3) := by decide +kernel
theorem dX8_undo_81 : decode cX8_undo 81 = .ok (.ireturn, 1) := by decide +kernel
theorem dX8_now_0 : decode cX8_now 0 = .ok (.iconst 0, 1) := by decide +kernel
theorem dX8_now_1 : decode cX8_now 1 = .ok (.istore_n 2, 1) := by decide +kernel
theorem dX8_now_2 : decode cX8_now 2 = .ok (.iconst 0, 1) := by decide +kernel
theorem dX8_now_3 : decode cX8_now 3 = .ok (.istore_n 3, 1) := by decide +kernel
theorem dX8_now_4 : decode cX8_now 4 = .ok (.bipush (-9), 2) := by decide +kernel
theorem dX8_now_6 : decode cX8_now 6 = .ok (.istore 4, 2) := by decide +kernel
theorem dX8_now_8 : decode cX8_now 8 = .ok (.iconst 0, 1) := by decide +kernel
theorem dX8_now_9 : decode cX8_now 9 = .ok (.istore 5, 2) := by decide +kernel
theorem dX8_now_11 : decode cX8_now 11 = .ok (.iload 5, 2) := by decide +kernel
theorem dX8_now_13 : decode cX8_now 13 = .ok (.aload_n 0, 1) := by decide +kernel
theorem dX8_now_14 : decode cX8_now 14 = .ok (.getfield 154, 3) := by decide +kernel
theorem dX8_now_17 : decode cX8_now 17 = .ok (.if_icmp .ge 77, 3) := by decide +kernel
theorem dX8_now_20 : decode cX8_now 20 = .ok (.iload_n 2, 1) := by decide +kernel
theorem dX8_now_21 : decode cX8_now 21 = .ok (.aload_n 0, 1) := by decide +kernel
theorem dX8_now_22 : decode cX8_now 22 = .ok (.getfield 34, 3) := by decide +kernel
theorem dX8_now_25 : decode cX8_now 25 = .ok (.iload 5, 2) := by decide +kernel
theorem dX8_now_27 : decode cX8_now 27 = .ok (.iaload, 1) := by decide +kernel
theorem dX8_now_28 : decode cX8_now 28 = .ok (.iadd, 1) := by decide +kernel
theorem dX8_now_29 : decode cX8_now 29 = .ok (.istore_n 2, 1) := by decide +kernel
theorem dX8_now_30 : decode cX8_now 30 = .ok (.iload_n 3, 1) := by decide +kernel
theorem dX8_now_31 : decode cX8_now 31 = .ok (.aload_n 0, 1) := by decide +kernel
theorem dX8_now_32 : decode cX8_now 32 = .ok (.getfield 34, 3) := by decide +kernel
theorem dX8_now_35 : decode cX8_now 35 = .ok (.iload 5, 2) := by decide +kernel
theorem dX8_now_37 : decode cX8_now 37 = .ok (.iaload, 1) := by decide +kernel
theorem dX8_now_38 : decode cX8_now 38 = .ok (.aload_n 0, 1) := by decide +kernel
theorem dX8_now_39 : decode cX8_now 39 = .ok (.getfield 61, 3) := by decide +kernel
theorem dX8_now_42 : decode cX8_now 42 = .ok (.if_icmp .le 10, 3) := by decide +kernel
theorem dX8_now_45 : decode cX8_now 45 = .ok (.iconst 1, 1) := by decide +kernel
theorem dX8_now_46 : decode cX8_now 46 = .ok (.iload 5, 2) := by decide +kernel
theorem dX8_now_48 : decode cX8_now 48 = .ok (.ishl, 1) := by decide +kernel
theorem dX8_now_49 : decode cX8_now 49 = .ok (.goto 4, 3) := by decide +kernel
theorem dX8_now_52 : decode cX8_now 52 = .ok (.iconst 0, 1) := by decide +kernel
theorem dX8_now_53 : decode cX8_now 53 = .ok (.ior, 1) := by decide +kernel
theorem dX8_now_54 : decode cX8_now 54 = .ok (.istore_n 3, 1) := by decide +kernel
theorem dX8_now_55 : decode cX8_now 55 = .ok (.iload 4, 2) := by decide +kernel
theorem dX8_now_57 : decode cX8_now 57 = .ok (.bipush (-9), 2) := by decide +kernel
theorem dX8_now_59 : decode cX8_now 59 = .ok (.if_icmp .eq 20, 3) := by decide +kernel
theorem dX8_now_62 : decode cX8_now 62 = .ok (.aload_n 0, 1) := by decide +kernel
theorem dX8_now_63 : decode cX8_now 63 = .ok (.getfield 34, 3) := by decide +kernel
theorem dX8_now_66 : decode cX8_now 66 = .ok (.iload 5, 2) := by decide +kernel
theorem dX8_now_68 : decode cX8_now 68 = .ok (.iaload, 1) := by decide +kernel
theorem dX8_now_69 : decode cX8_now 69 = .ok (.aload_n 0, 1) := by decide +kernel
theorem dX8_now_70 : decode cX8_now 70 = .ok (.getfield 34, 3) := by decide +kernel
theorem dX8_now_73 : decode cX8_now 73 = .ok (.iload 4, 2) := by decide +kernel
theorem dX8_now_75 : decode cX8_now 75 = .ok (.iaload, 1) := by decide +kernel
theorem dX8_now_76 : decode cX8_now 76 = .ok (.if_icmp .le 8, 3) := by decide +kernel
theorem dX8_now_79 : decode cX8_now 79 = .ok (.iload 5, 2) := by decide +kernel
theorem dX8_now_81 : decode cX8_now 81 = .ok (.goto 5, 3) := by decide +kernel
theorem dX8_now_84 : decode cX8_now 84 = .ok (.iload 4, 2) := by decide +kernel
theorem dX8_now_86 : decode cX8_now 86 = .ok (.istore 4, 2) := by decide +kernel
theorem dX8_now_88 : decode cX8_now 88 = .ok (.iinc 5 1, 3) := by decide +kernel
theorem dX8_now_91 : decode cX8_now 91 = .ok (.goto (-80), 3) := by decide +kernel
theorem dX8_now_94 : decode cX8_now 94 = .ok (.iload_n 1, 1) := by decide +kernel
theorem dX8_now_95 : decode cX8_now 95 = .ok (.tableswitch 50 0 4 #[33, 38, 40, 45, 47], 33) := by decide +kernel
theorem dX8_now_128 : decode cX8_now 128 = .ok (.aload_n 0, 1) := by decide +kernel
theorem dX8_now_129 : decode cX8_now 129 = .ok (.getfield 157, 3) := by decide +kernel
theorem dX8_now_132 : decode cX8_now 132 = .ok (.ireturn, 1) := by decide +kernel
theorem dX8_now_133 : decode cX8_now 133 = .ok (.iload_n 2, 1) := by decide +kernel
theorem dX8_now_134 : decode cX8_now 134 = .ok (.ireturn, 1) := by decide +kernel
theorem dX8_now_135 : decode cX8_now 135 = .ok (.aload_n 0, 1) := by decide +kernel
theorem dX8_now_136 : decode cX8_now 136 = .ok (.getfield 166, 3) := by decide +kernel
theorem dX8_now_139 : decode cX8_now 139 = .ok (.ireturn, 1) := by decide +kernel
theorem dX8_now_140 : decode cX8_now 140 = .ok (.iload_n 3, 1) := by decide +kernel
theorem dX8_now_141 : decode cX8_now 141 = .ok (.ireturn, 1) := by decide +kernel
theorem dX8_now_142 : decode cX8_now 142 = .ok (.iload 4, 2) := by decide +kernel
theorem dX8_now_144 : decode cX8_now 144 = .ok (.ireturn, 1) := by decide +kernel
theorem dX8_now_145 : decode cX8_now 145 = .ok (.iconst (-1), 1) := by decide +kernel
theorem dX8_now_146 : decode cX8_now 146 = .ok (.ireturn, 1) := by decide +kernel
theorem dX8_begins_0 : decode cX8_begins 0 = .ok (.iconst 0, 1) := by decide +kernel
theorem dX8_begins_1 : decode cX8_begins 1 = .ok (.istore_n 1, 1) := by decide +kernel
theorem dX8_begins_2 : decode cX8_begins 2 = .ok (.iload_n 1, 1) := by decide +kernel
theorem dX8_begins_3 : decode cX8_begins 3 = .ok (.aload_n 0, 1) := by decide +kernel
theorem dX8_begins_4 : decode cX8_begins 4 = .ok (.getfield 154, 3) := by decide +kernel
theorem dX8_begins_7 : decode cX8_begins 7 = .ok (.if_icmp .ge 21, 3) := by decide +kernel
theorem dX8_begins_10 : decode cX8_begins 10 = .ok (.aload_n 0, 1) := by decide +kernel
theorem dX8_begins_11 : decode cX8_begins 11 = .ok (.getfield 43, 3) := by decide +kernel
theorem dX8_begins_14 : decode cX8_begins 14 = .ok (.iload_n 1, 1) := by decide +kernel
theorem dX8_begins_15 : decode cX8_begins 15 = .ok (.aload_n 0, 1) := by decide +kernel
theorem dX8_begins_16 : decode cX8_begins 16 = .ok (.getfield 34, 3) := by decide +kernel
theorem dX8_begins_19 : decode cX8_begins 19 = .ok (.iload_n 1, 1) := by decide +kernel
theorem dX8_begins_20 : decode cX8_begins 20 = .ok (.iaload, 1) := by decide +kernel
theorem dX8_begins_21 : decode cX8_begins 21 = .ok (.iastore, 1) := by decide +kernel
theorem dX8_begins_22 : decode cX8_begins 22 = .ok (.iinc 1 1, 3) := by decide +kernel
theorem dX8_begins_25 : decode cX8_begins 25 = .ok (.goto (-23), 3) := by decide +kernel
theorem dX8_begins_28 : decode cX8_begins 28 = .ok (.return_, 1) := by decide +kernel
set_option maxRecDepth 20000 in
theorem ggX8_passes_X8_goes : GoodIn wsX8_passes wsX8_goes := goodIn_r _ [7, 8, 9, 10, 11, 12, 13, 14, 15, 16, 17, 18, 19, 20, 21, 22, 23, 24, 25, 26, 27, 28, 29, 30, 31, 32, 33, 34, 35, 36, 37, 38, 39, 40, 41, 42, 43, 44, 45, 46] (by decide +kernel) (by decide +kernel)
set_option maxRecDepth 20000 in
theorem gX8_passes_X8_goes : GoodIn wsX8_passes (wsV RX8 178 RX8 yX8_goes wsX8_goes) := goodIn_app (goodIn_of _ (by decide +kernel)) ggX8_passes_X8_goes
theorem dX8_passes_0 : decode cX8_passes 0 = .ok (.iconst 0, 1) := by decide +kernel
theorem dX8_passes_1 : decode cX8_passes 1 = .ok (.istore 4, 2) := by decide +kernel
theorem dX8_passes_3 : decode cX8_passes 3 = .ok (.iload 4, 2) := by decide +kernel
theorem dX8_passes_5 : decode cX8_passes 5 = .ok (.iload_n 1, 1) := by decide +kernel
theorem dX8_passes_6 : decode cX8_passes 6 = .ok (.if_icmp .ge 27, 3) := by decide +kernel
theorem dX8_passes_9 : decode cX8_passes 9 = .ok (.aload_n 0, 1) := by decide +kernel
theorem dX8_passes_10 : decode cX8_passes 10 = .ok (.aload_n 0, 1) := by decide +kernel
theorem dX8_passes_11 : decode cX8_passes 11 = .ok (.getfield 43, 3) := by decide +kernel
theorem dX8_passes_14 : decode cX8_passes 14 = .ok (.aload_n 0, 1) := by decide +kernel
theorem dX8_passes_15 : decode cX8_passes 15 = .ok (.getfield 157, 3) := by decide +kernel
theorem dX8_passes_18 : decode cX8_passes 18 = .ok (.iload 4, 2) := by decide +kernel
theorem dX8_passes_20 : decode cX8_passes 20 = .ok (.iadd, 1) := by decide +kernel
theorem dX8_passes_21 : decode cX8_passes 21 = .ok (.iload_n 2, 1) := by decide +kernel
theorem dX8_passes_22 : decode cX8_passes 22 = .ok (.iload_n 3, 1) := by decide +kernel
theorem dX8_passes_23 : decode cX8_passes 23 = .ok (.invokevirtual 178, 3) := by decide +kernel
theorem dX8_passes_26 : decode cX8_passes 26 = .ok (.pop, 1) := by decide +kernel
theorem dX8_passes_27 : decode cX8_passes 27 = .ok (.iinc 4 1, 3) := by decide +kernel
theorem dX8_passes_30 : decode cX8_passes 30 = .ok (.goto (-27), 3) := by decide +kernel
theorem dX8_passes_33 : decode cX8_passes 33 = .ok (.return_, 1) := by decide +kernel
set_option maxRecDepth 20000 in
theorem ggX8_behind_X8_in : GoodIn wsX8_behind wsX8_in := goodIn_r _ [8] (by decide +kernel) (by decide +kernel)
set_option maxRecDepth 20000 in
theorem gX8_behind_X8_in : GoodIn wsX8_behind (va_wsS RX8 67 yX8_in wsX8_in) := goodIn_app (goodIn_of _ (by decide +kernel)) ggX8_behind_X8_in
set_option maxRecDepth 20000 in
theorem ggX8_behind_X8_isWall : GoodIn wsX8_behind wsX8_isWall := goodIn_r _ [12, 13, 5, 6, 7, 8, 33, 34, 35, 36, 37, 38, 39, 40, 41, 42, 43, 44, 45, 46, 47, 48, 49, 50, 51, 52, 53, 54, 55, 56, 57, 58, 59, 60, 61, 62, 63, 64, 65] (by decide +kernel) (by decide +kernel)
set_option maxRecDepth 20000 in
theorem gX8_behind_X8_isWall : GoodIn wsX8_behind (wsV RX8 175 RX8 yX8_isWall wsX8_isWall) := goodIn_app (goodIn_of _ (by decide +kernel)) ggX8_behind_X8_isWall
set_option maxRecDepth 20000 in
theorem ggX8_behind_X8_begins : GoodIn wsX8_behind wsX8_begins := goodIn_r _ [17, 13, 4, 18, 33, 34, 35, 36, 37, 38, 39, 40, 41, 42, 43, 44, 45, 46, 47, 48, 49, 50, 51, 52, 53, 54, 55, 56, 57, 58, 59, 60, 61, 62, 63, 64, 65] (by decide +kernel) (by decide +kernel)
set_option maxRecDepth 20000 in
theorem gX8_behind_X8_begins : GoodIn wsX8_behind (wsV RX8 192 RX8 yX8_begins wsX8_begins) := goodIn_app (goodIn_of _ (by decide +kernel)) ggX8_behind_X8_begins
set_option maxRecDepth 20000 in
theorem ggX8_behind_X8_passes : GoodIn wsX8_behind wsX8_passes := goodIn_r _ [22, 4, 23, 24, 25, 26, 7, 27, 13, 28, 29, 30, 31, 32, 33, 34, 35, 36, 37, 38, 39, 40, 41, 42, 43, 44, 45, 46, 47, 48, 49, 50, 51, 52, 53, 54, 55, 56, 57, 58, 59, 60, 61, 62, 63, 64, 65] (by decide +kernel) (by decide +kernel)
set_option maxRecDepth 20000 in
theorem gX8_behind_X8_passes : GoodIn wsX8_behind (wsV RX8 195 RX8 yX8_passes wsX8_passes) := goodIn_app (goodIn_of _ (by decide +kernel)) ggX8_behind_X8_passes
theorem dX8_behind_0 : decode cX8_behind 0 = .ok (.iload_n 1, 1) := by decide +kernel
theorem dX8_behind_1 : decode cX8_behind 1 = .ok (.i2l, 1) := by decide +kernel
theorem dX8_behind_2 : decode cX8_behind 2 = .ok (.lconst 0, 1) := by decide +kernel
theorem dX8_behind_3 : decode cX8_behind 3 = .ok (.ldc2_w 190, 3) := by decide +kernel
theorem dX8_behind_6 : decode cX8_behind 6 = .ok (.invokestatic 67, 3) := by decide +kernel
theorem dX8_behind_9 : decode cX8_behind 9 = .ok (.ifCond .eq 11, 3) := by decide +kernel
theorem dX8_behind_12 : decode cX8_behind 12 = .ok (.aload_n 0, 1) := by decide +kernel
theorem dX8_behind_13 : decode cX8_behind 13 = .ok (.iload_n 2, 1) := by decide +kernel
theorem dX8_behind_14 : decode cX8_behind 14 = .ok (.invokevirtual 175, 3) := by decide +kernel
theorem dX8_behind_17 : decode cX8_behind 17 = .ok (.ifCond .ne 5, 3) := by decide +kernel
theorem dX8_behind_20 : decode cX8_behind 20 = .ok (.iconst (-1), 1) := by decide +kernel
theorem dX8_behind_21 : decode cX8_behind 21 = .ok (.ireturn, 1) := by decide +kernel
theorem dX8_behind_22 : decode cX8_behind 22 = .ok (.aload_n 0, 1) := by decide +kernel
theorem dX8_behind_23 : decode cX8_behind 23 = .ok (.invokevirtual 192, 3) := by decide +kernel
theorem dX8_behind_26 : decode cX8_behind 26 = .ok (.aload_n 0, 1) := by decide +kernel
theorem dX8_behind_27 : decode cX8_behind 27 = .ok (.iload_n 1, 1) := by decide +kernel
theorem dX8_behind_28 : decode cX8_behind 28 = .ok (.aload_n 0, 1) := by decide +kernel
theorem dX8_behind_29 : decode cX8_behind 29 = .ok (.getfield 160, 3) := by decide +kernel
theorem dX8_behind_32 : decode cX8_behind 32 = .ok (.aload_n 0, 1) := by decide +kernel
theorem dX8_behind_33 : decode cX8_behind 33 = .ok (.getfield 163, 3) := by decide +kernel
theorem dX8_behind_36 : decode cX8_behind 36 = .ok (.invokevirtual 195, 3) := by decide +kernel
theorem dX8_behind_39 : decode cX8_behind 39 = .ok (.aload_n 0, 1) := by decide +kernel
theorem dX8_behind_40 : decode cX8_behind 40 = .ok (.getfield 43, 3) := by decide +kernel
theorem dX8_behind_43 : decode cX8_behind 43 = .ok (.iload_n 2, 1) := by decide +kernel
theorem dX8_behind_44 : decode cX8_behind 44 = .ok (.iaload, 1) := by decide +kernel
theorem dX8_behind_45 : decode cX8_behind 45 = .ok (.ireturn, 1) := by decide +kernel
theorem dX8_tooWarm_0 : decode cX8_tooWarm 0 = .ok (.iconst 0, 1) := by decide +kernel
theorem dX8_tooWarm_1 : decode cX8_tooWarm 1 = .ok (.istore_n 1, 1) := by decide +kernel
theorem dX8_tooWarm_2 : decode cX8_tooWarm 2 = .ok (.iload_n 1, 1) := by decide +kernel
theorem dX8_tooWarm_3 : decode cX8_tooWarm 3 = .ok (.aload_n 0, 1) := by decide +kernel
theorem dX8_tooWarm_4 : decode cX8_tooWarm 4 = .ok (.getfield 154, 3) := by decide +kernel
theorem dX8_tooWarm_7 : decode cX8_tooWarm 7 = .ok (.if_icmp .ge 24, 3) := by decide +kernel
theorem dX8_tooWarm_10 : decode cX8_tooWarm 10 = .ok (.aload_n 0, 1) := by decide +kernel
theorem dX8_tooWarm_11 : decode cX8_tooWarm 11 = .ok (.getfield 43, 3) := by decide +kernel
theorem dX8_tooWarm_14 : decode cX8_tooWarm 14 = .ok (.iload_n 1, 1) := by decide +kernel
theorem dX8_tooWarm_15 : decode cX8_tooWarm 15 = .ok (.iaload, 1) := by decide +kernel
theorem dX8_tooWarm_16 : decode cX8_tooWarm 16 = .ok (.aload_n 0, 1) := by decide +kernel
theorem dX8_tooWarm_17 : decode cX8_tooWarm 17 = .ok (.getfield 61, 3) := by decide +kernel
theorem dX8_tooWarm_20 : decode cX8_tooWarm 20 = .ok (.if_icmp .le 5, 3) := by decide +kernel
theorem dX8_tooWarm_23 : decode cX8_tooWarm 23 = .ok (.iload_n 1, 1) := by decide +kernel
theorem dX8_tooWarm_24 : decode cX8_tooWarm 24 = .ok (.ireturn, 1) := by decide +kernel
theorem dX8_tooWarm_25 : decode cX8_tooWarm 25 = .ok (.iinc 1 1, 3) := by decide +kernel
theorem dX8_tooWarm_28 : decode cX8_tooWarm 28 = .ok (.goto (-26), 3) := by decide +kernel
theorem dX8_tooWarm_31 : decode cX8_tooWarm 31 = .ok (.bipush (-9), 2) := by decide +kernel
theorem dX8_tooWarm_33 : decode cX8_tooWarm 33 = .ok (.ireturn, 1) := by decide +kernel
set_option maxRecDepth 20000 in
theorem ggX8_first_X8_in : GoodIn wsX8_first wsX8_in := goodIn_r _ [8] (by decide +kernel) (by decide +kernel)
set_option maxRecDepth 20000 in
theorem gX8_first_X8_in : GoodIn wsX8_first (va_wsS RX8 67 yX8_in wsX8_in) := goodIn_app (goodIn_of _ (by decide +kernel)) ggX8_first_X8_in
set_option maxRecDepth 20000 in
theorem ggX8_first_X8_begins : GoodIn wsX8_first wsX8_begins := goodIn_r _ [12, 13, 1, 14, 29, 30, 31, 32, 33, 34, 35, 36, 37, 38, 39, 40, 41, 42, 43, 44, 45, 46, 47, 48, 49, 50, 51, 52, 53, 54, 55, 56, 57, 58, 59, 60, 61] (by decide +kernel) (by decide +kernel)
set_option maxRecDepth 20000 in
theorem gX8_first_X8_begins : GoodIn wsX8_first (wsV RX8 192 RX8 yX8_begins wsX8_begins) := goodIn_app (goodIn_of _ (by decide +kernel)) ggX8_first_X8_begins
set_option maxRecDepth 20000 in
theorem ggX8_first_X8_tooWarm : GoodIn wsX8_first wsX8_tooWarm := goodIn_r _ [18, 13, 1, 19, 29, 30, 31, 32, 33, 34, 35, 36, 37, 38, 39, 40, 41, 42, 43, 44, 45, 46, 47, 48, 49, 50, 51, 52, 53, 54, 55, 56, 57, 58, 59, 60, 61] (by decide +kernel) (by decide +kernel)
set_option maxRecDepth 20000 in
theorem gX8_first_X8_tooWarm : GoodIn wsX8_first (wsV RX8 199 RX8 yX8_tooWarm wsX8_tooWarm) := goodIn_app (goodIn_of _ (by decide +kernel)) ggX8_first_X8_tooWarm
set_option maxRecDepth 20000 in
theorem ggX8_first_X8_goes : GoodIn wsX8_first wsX8_goes := goodIn_r _ [23, 13, 24, 25, 26, 27, 28, 29, 30, 31, 32, 33, 34, 35, 36, 37, 38, 39, 40, 41, 42, 43, 44, 45, 46, 47, 48, 49, 50, 51, 52, 53, 54, 55, 56, 57, 58, 59, 60, 61] (by decide +kernel) (by decide +kernel)
set_option maxRecDepth 20000 in
theorem gX8_first_X8_goes : GoodIn wsX8_first (wsV RX8 178 RX8 yX8_goes wsX8_goes) := goodIn_app (goodIn_of _ (by decide +kernel)) ggX8_first_X8_goes
theorem dX8_first_0 : decode cX8_first 0 = .ok (.iload_n 1, 1) := by decide +kernel
theorem dX8_first_1 : decode cX8_first 1 = .ok (.i2l, 1) := by decide +kernel
theorem dX8_first_2 : decode cX8_first 2 = .ok (.lconst 0, 1) := by decide +kernel
theorem dX8_first_3 : decode cX8_first 3 = .ok (.lconst 1, 1) := by decide +kernel
theorem dX8_first_4 : decode cX8_first 4 = .ok (.invokestatic 67, 3) := by decide +kernel
theorem dX8_first_7 : decode cX8_first 7 = .ok (.ifCond .ne 5, 3) := by decide +kernel
theorem dX8_first_10 : decode cX8_first 10 = .ok (.iconst (-1), 1) := by decide +kernel
theorem dX8_first_11 : decode cX8_first 11 = .ok (.ireturn, 1) := by decide +kernel
theorem dX8_first_12 : decode cX8_first 12 = .ok (.aload_n 0, 1) := by decide +kernel
theorem dX8_first_13 : decode cX8_first 13 = .ok (.invokevirtual 192, 3) := by decide +kernel
theorem dX8_first_16 : decode cX8_first 16 = .ok (.iconst 0, 1) := by decide +kernel
theorem dX8_first_17 : decode cX8_first 17 = .ok (.istore_n 2, 1) := by decide +kernel
theorem dX8_first_18 : decode cX8_first 18 = .ok (.iload_n 2, 1) := by decide +kernel
theorem dX8_first_19 : decode cX8_first 19 = .ok (.bipush 50, 2) := by decide +kernel
theorem dX8_first_21 : decode cX8_first 21 = .ok (.if_icmp .gt 53, 3) := by decide +kernel
theorem dX8_first_24 : decode cX8_first 24 = .ok (.aload_n 0, 1) := by decide +kernel
theorem dX8_first_25 : decode cX8_first 25 = .ok (.invokevirtual 199, 3) := by decide +kernel
theorem dX8_first_28 : decode cX8_first 28 = .ok (.istore_n 3, 1) := by decide +kernel
theorem dX8_first_29 : decode cX8_first 29 = .ok (.iload_n 3, 1) := by decide +kernel
theorem dX8_first_30 : decode cX8_first 30 = .ok (.bipush (-9), 2) := by decide +kernel
theorem dX8_first_32 : decode cX8_first 32 = .ok (.if_icmp .eq 13, 3) := by decide +kernel
theorem dX8_first_35 : decode cX8_first 35 = .ok (.iload_n 1, 1) := by decide +kernel
theorem dX8_first_36 : decode cX8_first 36 = .ok (.ifCond .ne 7, 3) := by decide +kernel
theorem dX8_first_39 : decode cX8_first 39 = .ok (.iload_n 2, 1) := by decide +kernel
theorem dX8_first_40 : decode cX8_first 40 = .ok (.goto 4, 3) := by decide +kernel
theorem dX8_first_43 : decode cX8_first 43 = .ok (.iload_n 3, 1) := by decide +kernel
theorem dX8_first_44 : decode cX8_first 44 = .ok (.ireturn, 1) := by decide +kernel
theorem dX8_first_45 : decode cX8_first 45 = .ok (.aload_n 0, 1) := by decide +kernel
theorem dX8_first_46 : decode cX8_first 46 = .ok (.aload_n 0, 1) := by decide +kernel
theorem dX8_first_47 : decode cX8_first 47 = .ok (.getfield 43, 3) := by decide +kernel
theorem dX8_first_50 : decode cX8_first 50 = .ok (.aload_n 0, 1) := by decide +kernel
theorem dX8_first_51 : decode cX8_first 51 = .ok (.getfield 157, 3) := by decide +kernel
theorem dX8_first_54 : decode cX8_first 54 = .ok (.iload_n 2, 1) := by decide +kernel
theorem dX8_first_55 : decode cX8_first 55 = .ok (.iadd, 1) := by decide +kernel
theorem dX8_first_56 : decode cX8_first 56 = .ok (.aload_n 0, 1) := by decide +kernel
theorem dX8_first_57 : decode cX8_first 57 = .ok (.getfield 160, 3) := by decide +kernel
theorem dX8_first_60 : decode cX8_first 60 = .ok (.aload_n 0, 1) := by decide +kernel
theorem dX8_first_61 : decode cX8_first 61 = .ok (.getfield 163, 3) := by decide +kernel
theorem dX8_first_64 : decode cX8_first 64 = .ok (.invokevirtual 178, 3) := by decide +kernel
theorem dX8_first_67 : decode cX8_first 67 = .ok (.pop, 1) := by decide +kernel
theorem dX8_first_68 : decode cX8_first 68 = .ok (.iinc 2 1, 3) := by decide +kernel
theorem dX8_first_71 : decode cX8_first 71 = .ok (.goto (-53), 3) := by decide +kernel
theorem dX8_first_74 : decode cX8_first 74 = .ok (.bipush (-9), 2) := by decide +kernel
theorem dX8_first_76 : decode cX8_first 76 = .ok (.ireturn, 1) := by decide +kernel
set_option maxRecDepth 20000 in
theorem ggX8_rest_X8_begins : GoodIn wsX8_rest wsX8_begins := goodIn_r _ [11, 3, 5, 12, 26, 27, 28, 29, 30, 31, 32, 33, 34, 35, 36, 37, 38, 39, 40, 41, 42, 43, 44, 45, 46, 47, 48, 49, 50, 51, 52, 53, 54, 55, 56, 57, 58] (by decide +kernel) (by decide +kernel)
set_option maxRecDepth 20000 in
theorem gX8_rest_X8_begins : GoodIn wsX8_rest (wsV RX8 192 RX8 yX8_begins wsX8_begins) := goodIn_app (goodIn_of _ (by decide +kernel)) ggX8_rest_X8_begins
set_option maxRecDepth 20000 in
theorem ggX8_rest_X8_passes : GoodIn wsX8_rest wsX8_passes := goodIn_r _ [16, 5, 6, 17, 18, 19, 10, 20, 3, 21, 22, 23, 24, 25, 26, 27, 28, 29, 30, 31, 32, 33, 34, 35, 36, 37, 38, 39, 40, 41, 42, 43, 44, 45, 46, 47, 48, 49, 50, 51, 52, 53, 54, 55, 56, 57, 58] (by decide +kernel) (by decide +kernel)
set_option maxRecDepth 20000 in
theorem gX8_rest_X8_passes : GoodIn wsX8_rest (wsV RX8 195 RX8 yX8_passes wsX8_passes) := goodIn_app (goodIn_of _ (by decide +kernel)) ggX8_rest_X8_passes
set_option maxRecDepth 20000 in
theorem ggX8_rest_X8_goes : GoodIn wsX8_rest wsX8_goes := goodIn_r _ [20, 3, 21, 22, 23, 24, 25, 26, 27, 28, 29, 30, 31, 32, 33, 34, 35, 36, 37, 38, 39, 40, 41, 42, 43, 44, 45, 46, 47, 48, 49, 50, 51, 52, 53, 54, 55, 56, 57, 58] (by decide +kernel) (by decide +kernel)
set_option maxRecDepth 20000 in
theorem gX8_rest_X8_goes : GoodIn wsX8_rest (wsV RX8 178 RX8 yX8_goes wsX8_goes) := goodIn_app (goodIn_of _ (by decide +kernel)) ggX8_rest_X8_goes
theorem dX8_rest_0 : decode cX8_rest 0 = .ok (.iconst 0, 1) := by decide +kernel
theorem dX8_rest_1 : decode cX8_rest 1 = .ok (.istore_n 1, 1) := by decide +kernel
theorem dX8_rest_2 : decode cX8_rest 2 = .ok (.iload_n 1, 1) := by decide +kernel
theorem dX8_rest_3 : decode cX8_rest 3 = .ok (.sipush 200, 3) := by decide +kernel
theorem dX8_rest_6 : decode cX8_rest 6 = .ok (.if_icmp .gt 142, 3) := by decide +kernel
theorem dX8_rest_9 : decode cX8_rest 9 = .ok (.aload_n 0, 1) := by decide +kernel
theorem dX8_rest_10 : decode cX8_rest 10 = .ok (.invokevirtual 192, 3) := by decide +kernel
theorem dX8_rest_13 : decode cX8_rest 13 = .ok (.aload_n 0, 1) := by decide +kernel
theorem dX8_rest_14 : decode cX8_rest 14 = .ok (.iload_n 1, 1) := by decide +kernel
theorem dX8_rest_15 : decode cX8_rest 15 = .ok (.aload_n 0, 1) := by decide +kernel
theorem dX8_rest_16 : decode cX8_rest 16 = .ok (.getfield 160, 3) := by decide +kernel
theorem dX8_rest_19 : decode cX8_rest 19 = .ok (.aload_n 0, 1) := by decide +kernel
theorem dX8_rest_20 : decode cX8_rest 20 = .ok (.getfield 163, 3) := by decide +kernel
theorem dX8_rest_23 : decode cX8_rest 23 = .ok (.invokevirtual 195, 3) := by decide +kernel
theorem dX8_rest_26 : decode cX8_rest 26 = .ok (.iconst 0, 1) := by decide +kernel
theorem dX8_rest_27 : decode cX8_rest 27 = .ok (.istore_n 2, 1) := by decide +kernel
theorem dX8_rest_28 : decode cX8_rest 28 = .ok (.iload_n 2, 1) := by decide +kernel
theorem dX8_rest_29 : decode cX8_rest 29 = .ok (.aload_n 0, 1) := by decide +kernel
theorem dX8_rest_30 : decode cX8_rest 30 = .ok (.getfield 154, 3) := by decide +kernel
theorem dX8_rest_33 : decode cX8_rest 33 = .ok (.if_icmp .ge 21, 3) := by decide +kernel
theorem dX8_rest_36 : decode cX8_rest 36 = .ok (.aload_n 0, 1) := by decide +kernel
theorem dX8_rest_37 : decode cX8_rest 37 = .ok (.getfield 46, 3) := by decide +kernel
theorem dX8_rest_40 : decode cX8_rest 40 = .ok (.iload_n 2, 1) := by decide +kernel
theorem dX8_rest_41 : decode cX8_rest 41 = .ok (.aload_n 0, 1) := by decide +kernel
theorem dX8_rest_42 : decode cX8_rest 42 = .ok (.getfield 43, 3) := by decide +kernel
theorem dX8_rest_45 : decode cX8_rest 45 = .ok (.iload_n 2, 1) := by decide +kernel
theorem dX8_rest_46 : decode cX8_rest 46 = .ok (.iaload, 1) := by decide +kernel
theorem dX8_rest_47 : decode cX8_rest 47 = .ok (.iastore, 1) := by decide +kernel
theorem dX8_rest_48 : decode cX8_rest 48 = .ok (.iinc 2 1, 3) := by decide +kernel
theorem dX8_rest_51 : decode cX8_rest 51 = .ok (.goto (-23), 3) := by decide +kernel
theorem dX8_rest_54 : decode cX8_rest 54 = .ok (.iconst 0, 1) := by decide +kernel
theorem dX8_rest_55 : decode cX8_rest 55 = .ok (.istore_n 2, 1) := by decide +kernel
theorem dX8_rest_56 : decode cX8_rest 56 = .ok (.iload_n 2, 1) := by decide +kernel
theorem dX8_rest_57 : decode cX8_rest 57 = .ok (.bipush 8, 2) := by decide +kernel
theorem dX8_rest_59 : decode cX8_rest 59 = .ok (.if_icmp .ge 34, 3) := by decide +kernel
theorem dX8_rest_62 : decode cX8_rest 62 = .ok (.aload_n 0, 1) := by decide +kernel
theorem dX8_rest_63 : decode cX8_rest 63 = .ok (.aload_n 0, 1) := by decide +kernel
theorem dX8_rest_64 : decode cX8_rest 64 = .ok (.getfield 43, 3) := by decide +kernel
theorem dX8_rest_67 : decode cX8_rest 67 = .ok (.aload_n 0, 1) := by decide +kernel
theorem dX8_rest_68 : decode cX8_rest 68 = .ok (.getfield 157, 3) := by decide +kernel
theorem dX8_rest_71 : decode cX8_rest 71 = .ok (.iload_n 1, 1) := by decide +kernel
theorem dX8_rest_72 : decode cX8_rest 72 = .ok (.iadd, 1) := by decide +kernel
theorem dX8_rest_73 : decode cX8_rest 73 = .ok (.iload_n 2, 1) := by decide +kernel
theorem dX8_rest_74 : decode cX8_rest 74 = .ok (.iadd, 1) := by decide +kernel
theorem dX8_rest_75 : decode cX8_rest 75 = .ok (.aload_n 0, 1) := by decide +kernel
theorem dX8_rest_76 : decode cX8_rest 76 = .ok (.getfield 160, 3) := by decide +kernel
theorem dX8_rest_79 : decode cX8_rest 79 = .ok (.aload_n 0, 1) := by decide +kernel
theorem dX8_rest_80 : decode cX8_rest 80 = .ok (.getfield 163, 3) := by decide +kernel
theorem dX8_rest_83 : decode cX8_rest 83 = .ok (.invokevirtual 178, 3) := by decide +kernel
theorem dX8_rest_86 : decode cX8_rest 86 = .ok (.pop, 1) := by decide +kernel
theorem dX8_rest_87 : decode cX8_rest 87 = .ok (.iinc 2 1, 3) := by decide +kernel
theorem dX8_rest_90 : decode cX8_rest 90 = .ok (.goto (-34), 3) := by decide +kernel
theorem dX8_rest_93 : decode cX8_rest 93 = .ok (.iconst 1, 1) := by decide +kernel
theorem dX8_rest_94 : decode cX8_rest 94 = .ok (.istore_n 2, 1) := by decide +kernel
theorem dX8_rest_95 : decode cX8_rest 95 = .ok (.iconst 0, 1) := by decide +kernel
theorem dX8_rest_96 : decode cX8_rest 96 = .ok (.istore_n 3, 1) := by decide +kernel
theorem dX8_rest_97 : decode cX8_rest 97 = .ok (.iload_n 3, 1) := by decide +kernel
theorem dX8_rest_98 : decode cX8_rest 98 = .ok (.aload_n 0, 1) := by decide +kernel
theorem dX8_rest_99 : decode cX8_rest 99 = .ok (.getfield 154, 3) := by decide +kernel
theorem dX8_rest_102 : decode cX8_rest 102 = .ok (.if_icmp .ge 34, 3) := by decide +kernel
theorem dX8_rest_105 : decode cX8_rest 105 = .ok (.iload_n 2, 1) := by decide +kernel
theorem dX8_rest_106 : decode cX8_rest 106 = .ok (.ifCond .eq 22, 3) := by decide +kernel
theorem dX8_rest_109 : decode cX8_rest 109 = .ok (.aload_n 0, 1) := by decide +kernel
theorem dX8_rest_110 : decode cX8_rest 110 = .ok (.getfield 43, 3) := by decide +kernel
theorem dX8_rest_113 : decode cX8_rest 113 = .ok (.iload_n 3, 1) := by decide +kernel
theorem dX8_rest_114 : decode cX8_rest 114 = .ok (.iaload, 1) := by decide +kernel
theorem dX8_rest_115 : decode cX8_rest 115 = .ok (.aload_n 0, 1) := by decide +kernel
theorem dX8_rest_116 : decode cX8_rest 116 = .ok (.getfield 46, 3) := by decide +kernel
theorem dX8_rest_119 : decode cX8_rest 119 = .ok (.iload_n 3, 1) := by decide +kernel
theorem dX8_rest_120 : decode cX8_rest 120 = .ok (.iaload, 1) := by decide +kernel
theorem dX8_rest_121 : decode cX8_rest 121 = .ok (.if_icmp .ne 7, 3) := by decide +kernel
theorem dX8_rest_124 : decode cX8_rest 124 = .ok (.iconst 1, 1) := by decide +kernel
theorem dX8_rest_125 : decode cX8_rest 125 = .ok (.goto 4, 3) := by decide +kernel
theorem dX8_rest_128 : decode cX8_rest 128 = .ok (.iconst 0, 1) := by decide +kernel
theorem dX8_rest_129 : decode cX8_rest 129 = .ok (.istore_n 2, 1) := by decide +kernel
theorem dX8_rest_130 : decode cX8_rest 130 = .ok (.iinc 3 1, 3) := by decide +kernel
theorem dX8_rest_133 : decode cX8_rest 133 = .ok (.goto (-36), 3) := by decide +kernel
theorem dX8_rest_136 : decode cX8_rest 136 = .ok (.iload_n 2, 1) := by decide +kernel
theorem dX8_rest_137 : decode cX8_rest 137 = .ok (.ifCond .eq 5, 3) := by decide +kernel
theorem dX8_rest_140 : decode cX8_rest 140 = .ok (.iload_n 1, 1) := by decide +kernel
theorem dX8_rest_141 : decode cX8_rest 141 = .ok (.ireturn, 1) := by decide +kernel
theorem dX8_rest_142 : decode cX8_rest 142 = .ok (.iinc 1 1, 3) := by decide +kernel
theorem dX8_rest_145 : decode cX8_rest 145 = .ok (.goto (-143), 3) := by decide +kernel
theorem dX8_rest_148 : decode cX8_rest 148 = .ok (.bipush (-9), 2) := by decide +kernel
theorem dX8_rest_150 : decode cX8_rest 150 = .ok (.ireturn, 1) := by decide +kernel
set_option maxRecDepth 20000 in
theorem ggX8_coolest_X8_in : GoodIn wsX8_coolest wsX8_in := goodIn_r _ [8] (by decide +kernel) (by decide +kernel)
set_option maxRecDepth 20000 in
theorem gX8_coolest_X8_in : GoodIn wsX8_coolest (va_wsS RX8 67 yX8_in wsX8_in) := goodIn_app (goodIn_of _ (by decide +kernel)) ggX8_coolest_X8_in
set_option maxRecDepth 20000 in
theorem ggX8_coolest_X8_begins : GoodIn wsX8_coolest wsX8_begins := goodIn_r _ [12, 2, 4, 13, 28, 29, 30, 31, 32, 33, 34, 35, 36, 37, 38, 39, 40, 41, 42, 43, 44, 45, 46, 47, 48, 49, 50, 51, 52, 53, 54, 55, 56, 57, 58, 59, 60] (by decide +kernel) (by decide +kernel)
set_option maxRecDepth 20000 in
theorem gX8_coolest_X8_begins : GoodIn wsX8_coolest (wsV RX8 192 RX8 yX8_begins wsX8_begins) := goodIn_app (goodIn_of _ (by decide +kernel)) ggX8_coolest_X8_begins
set_option maxRecDepth 20000 in
theorem ggX8_coolest_X8_passes : GoodIn wsX8_coolest wsX8_passes := goodIn_r _ [17, 4, 18, 19, 20, 21, 7, 22, 2, 23, 24, 25, 26, 27, 28, 29, 30, 31, 32, 33, 34, 35, 36, 37, 38, 39, 40, 41, 42, 43, 44, 45, 46, 47, 48, 49, 50, 51, 52, 53, 54, 55, 56, 57, 58, 59, 60] (by decide +kernel) (by decide +kernel)
set_option maxRecDepth 20000 in
theorem gX8_coolest_X8_passes : GoodIn wsX8_coolest (wsV RX8 195 RX8 yX8_passes wsX8_passes) := goodIn_app (goodIn_of _ (by decide +kernel)) ggX8_coolest_X8_passes
theorem dX8_coolest_0 : decode cX8_coolest 0 = .ok (.iload_n 1, 1) := by decide +kernel
theorem dX8_coolest_1 : decode cX8_coolest 1 = .ok (.i2l, 1) := by decide +kernel
theorem dX8_coolest_2 : decode cX8_coolest 2 = .ok (.lconst 0, 1) := by decide +kernel
theorem dX8_coolest_3 : decode cX8_coolest 3 = .ok (.ldc2_w 203, 3) := by decide +kernel
theorem dX8_coolest_6 : decode cX8_coolest 6 = .ok (.invokestatic 67, 3) := by decide +kernel
theorem dX8_coolest_9 : decode cX8_coolest 9 = .ok (.ifCond .eq 13, 3) := by decide +kernel
theorem dX8_coolest_12 : decode cX8_coolest 12 = .ok (.iload_n 2, 1) := by decide +kernel
theorem dX8_coolest_13 : decode cX8_coolest 13 = .ok (.i2l, 1) := by decide +kernel
theorem dX8_coolest_14 : decode cX8_coolest 14 = .ok (.lconst 0, 1) := by decide +kernel
theorem dX8_coolest_15 : decode cX8_coolest 15 = .ok (.lconst 1, 1) := by decide +kernel
theorem dX8_coolest_16 : decode cX8_coolest 16 = .ok (.invokestatic 67, 3) := by decide +kernel
theorem dX8_coolest_19 : decode cX8_coolest 19 = .ok (.ifCond .ne 5, 3) := by decide +kernel
theorem dX8_coolest_22 : decode cX8_coolest 22 = .ok (.iconst (-1), 1) := by decide +kernel
theorem dX8_coolest_23 : decode cX8_coolest 23 = .ok (.ireturn, 1) := by decide +kernel
theorem dX8_coolest_24 : decode cX8_coolest 24 = .ok (.bipush (-9), 2) := by decide +kernel
theorem dX8_coolest_26 : decode cX8_coolest 26 = .ok (.istore_n 3, 1) := by decide +kernel
theorem dX8_coolest_27 : decode cX8_coolest 27 = .ok (.iconst 0, 1) := by decide +kernel
theorem dX8_coolest_28 : decode cX8_coolest 28 = .ok (.istore 4, 2) := by decide +kernel
theorem dX8_coolest_30 : decode cX8_coolest 30 = .ok (.iconst 0, 1) := by decide +kernel
theorem dX8_coolest_31 : decode cX8_coolest 31 = .ok (.istore 5, 2) := by decide +kernel
theorem dX8_coolest_33 : decode cX8_coolest 33 = .ok (.iload 5, 2) := by decide +kernel
theorem dX8_coolest_35 : decode cX8_coolest 35 = .ok (.iconst 1, 1) := by decide +kernel
theorem dX8_coolest_36 : decode cX8_coolest 36 = .ok (.aload_n 0, 1) := by decide +kernel
theorem dX8_coolest_37 : decode cX8_coolest 37 = .ok (.getfield 154, 3) := by decide +kernel
theorem dX8_coolest_40 : decode cX8_coolest 40 = .ok (.ishl, 1) := by decide +kernel
theorem dX8_coolest_41 : decode cX8_coolest 41 = .ok (.if_icmp .ge 124, 3) := by decide +kernel
theorem dX8_coolest_44 : decode cX8_coolest 44 = .ok (.aload_n 0, 1) := by decide +kernel
theorem dX8_coolest_45 : decode cX8_coolest 45 = .ok (.getfield 154, 3) := by decide +kernel
theorem dX8_coolest_48 : decode cX8_coolest 48 = .ok (.ifCond .le 117, 3) := by decide +kernel
theorem dX8_coolest_51 : decode cX8_coolest 51 = .ok (.aload_n 0, 1) := by decide +kernel
theorem dX8_coolest_52 : decode cX8_coolest 52 = .ok (.invokevirtual 192, 3) := by decide +kernel
theorem dX8_coolest_55 : decode cX8_coolest 55 = .ok (.aload_n 0, 1) := by decide +kernel
theorem dX8_coolest_56 : decode cX8_coolest 56 = .ok (.iload_n 1, 1) := by decide +kernel
theorem dX8_coolest_57 : decode cX8_coolest 57 = .ok (.iload 5, 2) := by decide +kernel
theorem dX8_coolest_59 : decode cX8_coolest 59 = .ok (.aload_n 0, 1) := by decide +kernel
theorem dX8_coolest_60 : decode cX8_coolest 60 = .ok (.getfield 163, 3) := by decide +kernel
theorem dX8_coolest_63 : decode cX8_coolest 63 = .ok (.invokevirtual 195, 3) := by decide +kernel
theorem dX8_coolest_66 : decode cX8_coolest 66 = .ok (.iconst 0, 1) := by decide +kernel
theorem dX8_coolest_67 : decode cX8_coolest 67 = .ok (.istore 6, 2) := by decide +kernel
theorem dX8_coolest_69 : decode cX8_coolest 69 = .ok (.iconst 0, 1) := by decide +kernel
theorem dX8_coolest_70 : decode cX8_coolest 70 = .ok (.istore 7, 2) := by decide +kernel
theorem dX8_coolest_72 : decode cX8_coolest 72 = .ok (.iload 7, 2) := by decide +kernel
theorem dX8_coolest_74 : decode cX8_coolest 74 = .ok (.aload_n 0, 1) := by decide +kernel
theorem dX8_coolest_75 : decode cX8_coolest 75 = .ok (.getfield 154, 3) := by decide +kernel
theorem dX8_coolest_78 : decode cX8_coolest 78 = .ok (.if_icmp .ge 35, 3) := by decide +kernel
theorem dX8_coolest_81 : decode cX8_coolest 81 = .ok (.aload_n 0, 1) := by decide +kernel
theorem dX8_coolest_82 : decode cX8_coolest 82 = .ok (.getfield 43, 3) := by decide +kernel
theorem dX8_coolest_85 : decode cX8_coolest 85 = .ok (.iload 7, 2) := by decide +kernel
theorem dX8_coolest_87 : decode cX8_coolest 87 = .ok (.iaload, 1) := by decide +kernel
theorem dX8_coolest_88 : decode cX8_coolest 88 = .ok (.iload 6, 2) := by decide +kernel
theorem dX8_coolest_90 : decode cX8_coolest 90 = .ok (.if_icmp .le 13, 3) := by decide +kernel
theorem dX8_coolest_93 : decode cX8_coolest 93 = .ok (.aload_n 0, 1) := by decide +kernel
theorem dX8_coolest_94 : decode cX8_coolest 94 = .ok (.getfield 43, 3) := by decide +kernel
theorem dX8_coolest_97 : decode cX8_coolest 97 = .ok (.iload 7, 2) := by decide +kernel
theorem dX8_coolest_99 : decode cX8_coolest 99 = .ok (.iaload, 1) := by decide +kernel
theorem dX8_coolest_100 : decode cX8_coolest 100 = .ok (.goto 5, 3) := by decide +kernel
theorem dX8_coolest_103 : decode cX8_coolest 103 = .ok (.iload 6, 2) := by decide +kernel
theorem dX8_coolest_105 : decode cX8_coolest 105 = .ok (.istore 6, 2) := by decide +kernel
theorem dX8_coolest_107 : decode cX8_coolest 107 = .ok (.iinc 7 1, 3) := by decide +kernel
theorem dX8_coolest_110 : decode cX8_coolest 110 = .ok (.goto (-38), 3) := by decide +kernel
theorem dX8_coolest_113 : decode cX8_coolest 113 = .ok (.iload_n 3, 1) := by decide +kernel
theorem dX8_coolest_114 : decode cX8_coolest 114 = .ok (.bipush (-9), 2) := by decide +kernel
theorem dX8_coolest_116 : decode cX8_coolest 116 = .ok (.if_icmp .eq 10, 3) := by decide +kernel
theorem dX8_coolest_119 : decode cX8_coolest 119 = .ok (.iload 6, 2) := by decide +kernel
theorem dX8_coolest_121 : decode cX8_coolest 121 = .ok (.iload 4, 2) := by decide +kernel
theorem dX8_coolest_123 : decode cX8_coolest 123 = .ok (.if_icmp .ge 7, 3) := by decide +kernel
theorem dX8_coolest_126 : decode cX8_coolest 126 = .ok (.iconst 1, 1) := by decide +kernel
theorem dX8_coolest_127 : decode cX8_coolest 127 = .ok (.goto 4, 3) := by decide +kernel
theorem dX8_coolest_130 : decode cX8_coolest 130 = .ok (.iconst 0, 1) := by decide +kernel
theorem dX8_coolest_131 : decode cX8_coolest 131 = .ok (.istore 7, 2) := by decide +kernel
theorem dX8_coolest_133 : decode cX8_coolest 133 = .ok (.iload 7, 2) := by decide +kernel
theorem dX8_coolest_135 : decode cX8_coolest 135 = .ok (.ifCond .eq 8, 3) := by decide +kernel
theorem dX8_coolest_138 : decode cX8_coolest 138 = .ok (.iload 5, 2) := by decide +kernel
theorem dX8_coolest_140 : decode cX8_coolest 140 = .ok (.goto 4, 3) := by decide +kernel
theorem dX8_coolest_143 : decode cX8_coolest 143 = .ok (.iload_n 3, 1) := by decide +kernel
theorem dX8_coolest_144 : decode cX8_coolest 144 = .ok (.istore_n 3, 1) := by decide +kernel
theorem dX8_coolest_145 : decode cX8_coolest 145 = .ok (.iload 7, 2) := by decide +kernel
theorem dX8_coolest_147 : decode cX8_coolest 147 = .ok (.ifCond .eq 8, 3) := by decide +kernel
theorem dX8_coolest_150 : decode cX8_coolest 150 = .ok (.iload 6, 2) := by decide +kernel
theorem dX8_coolest_152 : decode cX8_coolest 152 = .ok (.goto 5, 3) := by decide +kernel
theorem dX8_coolest_155 : decode cX8_coolest 155 = .ok (.iload 4, 2) := by decide +kernel
theorem dX8_coolest_157 : decode cX8_coolest 157 = .ok (.istore 4, 2) := by decide +kernel
theorem dX8_coolest_159 : decode cX8_coolest 159 = .ok (.iinc 5 1, 3) := by decide +kernel
theorem dX8_coolest_162 : decode cX8_coolest 162 = .ok (.goto (-129), 3) := by decide +kernel
theorem dX8_coolest_165 : decode cX8_coolest 165 = .ok (.iload_n 3, 1) := by decide +kernel
theorem dX8_coolest_166 : decode cX8_coolest 166 = .ok (.bipush (-9), 2) := by decide +kernel
theorem dX8_coolest_168 : decode cX8_coolest 168 = .ok (.if_icmp .ne 8, 3) := by decide +kernel
theorem dX8_coolest_171 : decode cX8_coolest 171 = .ok (.bipush (-9), 2) := by decide +kernel
theorem dX8_coolest_173 : decode cX8_coolest 173 = .ok (.goto 13, 3) := by decide +kernel
theorem dX8_coolest_176 : decode cX8_coolest 176 = .ok (.iload_n 2, 1) := by decide +kernel
theorem dX8_coolest_177 : decode cX8_coolest 177 = .ok (.ifCond .ne 8, 3) := by decide +kernel
theorem dX8_coolest_180 : decode cX8_coolest 180 = .ok (.iload 4, 2) := by decide +kernel
theorem dX8_coolest_182 : decode cX8_coolest 182 = .ok (.goto 4, 3) := by decide +kernel
theorem dX8_coolest_185 : decode cX8_coolest 185 = .ok (.iload_n 3, 1) := by decide +kernel
theorem dX8_coolest_186 : decode cX8_coolest 186 = .ok (.ireturn, 1) := by decide +kernel
set_option maxRecDepth 20000 in
theorem ggX8_busy_X8_isWall : GoodIn wsX8_busy wsX8_isWall := goodIn_r _ [10, 11, 12, 13, 9, 14, 36, 37, 38, 39, 40, 41, 42, 43, 44, 45, 46, 47, 48, 49, 50, 51, 52, 53, 54, 55, 56, 57, 58, 59, 60, 61, 62, 63, 64, 65, 66, 67, 68] (by decide +kernel) (by decide +kernel)
set_option maxRecDepth 20000 in
theorem gX8_busy_X8_isWall : GoodIn wsX8_busy (wsV RX8 175 RX8 yX8_isWall wsX8_isWall) := goodIn_app (goodIn_of _ (by decide +kernel)) ggX8_busy_X8_isWall
set_option maxRecDepth 20000 in
theorem ggX8_busy_X8_in : GoodIn wsX8_busy wsX8_in := goodIn_r _ [14] (by decide +kernel) (by decide +kernel)
set_option maxRecDepth 20000 in
theorem gX8_busy_X8_in : GoodIn wsX8_busy (va_wsS RX8 67 yX8_in wsX8_in) := goodIn_app (goodIn_of _ (by decide +kernel)) ggX8_busy_X8_in
set_option maxRecDepth 20000 in
theorem ggX8_busy_X8_begins : GoodIn wsX8_busy wsX8_begins := goodIn_r _ [18, 11, 2, 19, 36, 37, 38, 39, 40, 41, 42, 43, 44, 45, 46, 47, 48, 49, 50, 51, 52, 53, 54, 55, 56, 57, 58, 59, 60, 61, 62, 63, 64, 65, 66, 67, 68] (by decide +kernel) (by decide +kernel)
set_option maxRecDepth 20000 in
theorem gX8_busy_X8_begins : GoodIn wsX8_busy (wsV RX8 192 RX8 yX8_begins wsX8_begins) := goodIn_app (goodIn_of _ (by decide +kernel)) ggX8_busy_X8_begins
set_option maxRecDepth 20000 in
theorem ggX8_busy_X8_many : GoodIn wsX8_busy wsX8_many := goodIn_r _ [22] (by decide +kernel) (by decide +kernel)
set_option maxRecDepth 20000 in
theorem gX8_busy_X8_many : GoodIn wsX8_busy (va_wsS RX8 186 yX8_many wsX8_many) := goodIn_app (goodIn_of _ (by decide +kernel)) ggX8_busy_X8_many
set_option maxRecDepth 20000 in
theorem ggX8_busy_X8_goes : GoodIn wsX8_busy wsX8_goes := goodIn_r _ [26, 11, 27, 1, 28, 29, 30, 36, 37, 38, 39, 40, 41, 42, 43, 44, 45, 46, 47, 48, 49, 50, 51, 52, 53, 54, 55, 56, 57, 58, 59, 60, 61, 62, 63, 64, 65, 66, 67, 68] (by decide +kernel) (by decide +kernel)
set_option maxRecDepth 20000 in
theorem gX8_busy_X8_goes : GoodIn wsX8_busy (wsV RX8 178 RX8 yX8_goes wsX8_goes) := goodIn_app (goodIn_of _ (by decide +kernel)) ggX8_busy_X8_goes
set_option maxRecDepth 20000 in
theorem ggX8_busy_X8_tooWarm : GoodIn wsX8_busy wsX8_tooWarm := goodIn_r _ [34, 11, 2, 35, 36, 37, 38, 39, 40, 41, 42, 43, 44, 45, 46, 47, 48, 49, 50, 51, 52, 53, 54, 55, 56, 57, 58, 59, 60, 61, 62, 63, 64, 65, 66, 67, 68] (by decide +kernel) (by decide +kernel)
set_option maxRecDepth 20000 in
theorem gX8_busy_X8_tooWarm : GoodIn wsX8_busy (wsV RX8 199 RX8 yX8_tooWarm wsX8_tooWarm) := goodIn_app (goodIn_of _ (by decide +kernel)) ggX8_busy_X8_tooWarm
theorem dX8_busy_0 : decode cX8_busy 0 = .ok (.aload_n 0, 1) := by decide +kernel
theorem dX8_busy_1 : decode cX8_busy 1 = .ok (.iload_n 1, 1) := by decide +kernel
theorem dX8_busy_2 : decode cX8_busy 2 = .ok (.invokevirtual 175, 3) := by decide +kernel
theorem dX8_busy_5 : decode cX8_busy 5 = .ok (.ifCond .eq 13, 3) := by decide +kernel
theorem dX8_busy_8 : decode cX8_busy 8 = .ok (.iload_n 2, 1) := by decide +kernel
theorem dX8_busy_9 : decode cX8_busy 9 = .ok (.i2l, 1) := by decide +kernel
theorem dX8_busy_10 : decode cX8_busy 10 = .ok (.lconst 0, 1) := by decide +kernel
theorem dX8_busy_11 : decode cX8_busy 11 = .ok (.lconst 1, 1) := by decide +kernel
theorem dX8_busy_12 : decode cX8_busy 12 = .ok (.invokestatic 67, 3) := by decide +kernel
theorem dX8_busy_15 : decode cX8_busy 15 = .ok (.ifCond .ne 5, 3) := by decide +kernel
theorem dX8_busy_18 : decode cX8_busy 18 = .ok (.iconst (-1), 1) := by decide +kernel
theorem dX8_busy_19 : decode cX8_busy 19 = .ok (.ireturn, 1) := by decide +kernel
theorem dX8_busy_20 : decode cX8_busy 20 = .ok (.aload_n 0, 1) := by decide +kernel
theorem dX8_busy_21 : decode cX8_busy 21 = .ok (.getfield 28, 3) := by decide +kernel
theorem dX8_busy_24 : decode cX8_busy 24 = .ok (.iload_n 1, 1) := by decide +kernel
theorem dX8_busy_25 : decode cX8_busy 25 = .ok (.iaload, 1) := by decide +kernel
theorem dX8_busy_26 : decode cX8_busy 26 = .ok (.istore_n 3, 1) := by decide +kernel
theorem dX8_busy_27 : decode cX8_busy 27 = .ok (.bipush (-9), 2) := by decide +kernel
theorem dX8_busy_29 : decode cX8_busy 29 = .ok (.istore 4, 2) := by decide +kernel
theorem dX8_busy_31 : decode cX8_busy 31 = .ok (.iconst 0, 1) := by decide +kernel
theorem dX8_busy_32 : decode cX8_busy 32 = .ok (.istore 5, 2) := by decide +kernel
theorem dX8_busy_34 : decode cX8_busy 34 = .ok (.iload 5, 2) := by decide +kernel
theorem dX8_busy_36 : decode cX8_busy 36 = .ok (.sipush 256, 3) := by decide +kernel
theorem dX8_busy_39 : decode cX8_busy 39 = .ok (.if_icmp .ge 123, 3) := by decide +kernel
theorem dX8_busy_42 : decode cX8_busy 42 = .ok (.aload_n 0, 1) := by decide +kernel
theorem dX8_busy_43 : decode cX8_busy 43 = .ok (.getfield 28, 3) := by decide +kernel
theorem dX8_busy_46 : decode cX8_busy 46 = .ok (.iload_n 1, 1) := by decide +kernel
theorem dX8_busy_47 : decode cX8_busy 47 = .ok (.iload 5, 2) := by decide +kernel
theorem dX8_busy_49 : decode cX8_busy 49 = .ok (.iastore, 1) := by decide +kernel
theorem dX8_busy_50 : decode cX8_busy 50 = .ok (.aload_n 0, 1) := by decide +kernel
theorem dX8_busy_51 : decode cX8_busy 51 = .ok (.invokevirtual 192, 3) := by decide +kernel
theorem dX8_busy_54 : decode cX8_busy 54 = .ok (.iload 4, 2) := by decide +kernel
theorem dX8_busy_56 : decode cX8_busy 56 = .ok (.bipush (-9), 2) := by decide +kernel
theorem dX8_busy_58 : decode cX8_busy 58 = .ok (.if_icmp .eq 16, 3) := by decide +kernel
theorem dX8_busy_61 : decode cX8_busy 61 = .ok (.iload 5, 2) := by decide +kernel
theorem dX8_busy_63 : decode cX8_busy 63 = .ok (.invokestatic 186, 3) := by decide +kernel
theorem dX8_busy_66 : decode cX8_busy 66 = .ok (.iload 4, 2) := by decide +kernel
theorem dX8_busy_68 : decode cX8_busy 68 = .ok (.invokestatic 186, 3) := by decide +kernel
theorem dX8_busy_71 : decode cX8_busy 71 = .ok (.if_icmp .le 7, 3) := by decide +kernel
theorem dX8_busy_74 : decode cX8_busy 74 = .ok (.iconst 1, 1) := by decide +kernel
theorem dX8_busy_75 : decode cX8_busy 75 = .ok (.goto 4, 3) := by decide +kernel
theorem dX8_busy_78 : decode cX8_busy 78 = .ok (.iconst 0, 1) := by decide +kernel
theorem dX8_busy_79 : decode cX8_busy 79 = .ok (.istore 6, 2) := by decide +kernel
theorem dX8_busy_81 : decode cX8_busy 81 = .ok (.iconst 0, 1) := by decide +kernel
theorem dX8_busy_82 : decode cX8_busy 82 = .ok (.istore 7, 2) := by decide +kernel
theorem dX8_busy_84 : decode cX8_busy 84 = .ok (.iload 7, 2) := by decide +kernel
theorem dX8_busy_86 : decode cX8_busy 86 = .ok (.bipush 16, 2) := by decide +kernel
theorem dX8_busy_88 : decode cX8_busy 88 = .ok (.if_icmp .ge 54, 3) := by decide +kernel
theorem dX8_busy_91 : decode cX8_busy 91 = .ok (.iload 6, 2) := by decide +kernel
theorem dX8_busy_93 : decode cX8_busy 93 = .ok (.ifCond .eq 49, 3) := by decide +kernel
theorem dX8_busy_96 : decode cX8_busy 96 = .ok (.aload_n 0, 1) := by decide +kernel
theorem dX8_busy_97 : decode cX8_busy 97 = .ok (.aload_n 0, 1) := by decide +kernel
theorem dX8_busy_98 : decode cX8_busy 98 = .ok (.getfield 43, 3) := by decide +kernel
theorem dX8_busy_101 : decode cX8_busy 101 = .ok (.aload_n 0, 1) := by decide +kernel
theorem dX8_busy_102 : decode cX8_busy 102 = .ok (.getfield 157, 3) := by decide +kernel
theorem dX8_busy_105 : decode cX8_busy 105 = .ok (.iload 7, 2) := by decide +kernel
theorem dX8_busy_107 : decode cX8_busy 107 = .ok (.iadd, 1) := by decide +kernel
theorem dX8_busy_108 : decode cX8_busy 108 = .ok (.aload_n 0, 1) := by decide +kernel
theorem dX8_busy_109 : decode cX8_busy 109 = .ok (.getfield 160, 3) := by decide +kernel
theorem dX8_busy_112 : decode cX8_busy 112 = .ok (.aload_n 0, 1) := by decide +kernel
theorem dX8_busy_113 : decode cX8_busy 113 = .ok (.getfield 163, 3) := by decide +kernel
theorem dX8_busy_116 : decode cX8_busy 116 = .ok (.invokevirtual 178, 3) := by decide +kernel
theorem dX8_busy_119 : decode cX8_busy 119 = .ok (.pop, 1) := by decide +kernel
theorem dX8_busy_120 : decode cX8_busy 120 = .ok (.aload_n 0, 1) := by decide +kernel
theorem dX8_busy_121 : decode cX8_busy 121 = .ok (.invokevirtual 199, 3) := by decide +kernel
theorem dX8_busy_124 : decode cX8_busy 124 = .ok (.bipush (-9), 2) := by decide +kernel
theorem dX8_busy_126 : decode cX8_busy 126 = .ok (.if_icmp .ne 7, 3) := by decide +kernel
theorem dX8_busy_129 : decode cX8_busy 129 = .ok (.iconst 1, 1) := by decide +kernel
theorem dX8_busy_130 : decode cX8_busy 130 = .ok (.goto 4, 3) := by decide +kernel
theorem dX8_busy_133 : decode cX8_busy 133 = .ok (.iconst 0, 1) := by decide +kernel
theorem dX8_busy_134 : decode cX8_busy 134 = .ok (.istore 6, 2) := by decide +kernel
theorem dX8_busy_136 : decode cX8_busy 136 = .ok (.iinc 7 1, 3) := by decide +kernel
theorem dX8_busy_139 : decode cX8_busy 139 = .ok (.goto (-55), 3) := by decide +kernel
theorem dX8_busy_142 : decode cX8_busy 142 = .ok (.iload 6, 2) := by decide +kernel
theorem dX8_busy_144 : decode cX8_busy 144 = .ok (.ifCond .eq 8, 3) := by decide +kernel
theorem dX8_busy_147 : decode cX8_busy 147 = .ok (.iload 5, 2) := by decide +kernel
theorem dX8_busy_149 : decode cX8_busy 149 = .ok (.goto 5, 3) := by decide +kernel
theorem dX8_busy_152 : decode cX8_busy 152 = .ok (.iload 4, 2) := by decide +kernel
theorem dX8_busy_154 : decode cX8_busy 154 = .ok (.istore 4, 2) := by decide +kernel
theorem dX8_busy_156 : decode cX8_busy 156 = .ok (.iinc 5 1, 3) := by decide +kernel
theorem dX8_busy_159 : decode cX8_busy 159 = .ok (.goto (-125), 3) := by decide +kernel
theorem dX8_busy_162 : decode cX8_busy 162 = .ok (.aload_n 0, 1) := by decide +kernel
theorem dX8_busy_163 : decode cX8_busy 163 = .ok (.getfield 28, 3) := by decide +kernel
theorem dX8_busy_166 : decode cX8_busy 166 = .ok (.iload_n 1, 1) := by decide +kernel
theorem dX8_busy_167 : decode cX8_busy 167 = .ok (.iload_n 3, 1) := by decide +kernel
theorem dX8_busy_168 : decode cX8_busy 168 = .ok (.iastore, 1) := by decide +kernel
theorem dX8_busy_169 : decode cX8_busy 169 = .ok (.iload 4, 2) := by decide +kernel
theorem dX8_busy_171 : decode cX8_busy 171 = .ok (.bipush (-9), 2) := by decide +kernel
theorem dX8_busy_173 : decode cX8_busy 173 = .ok (.if_icmp .ne 8, 3) := by decide +kernel
theorem dX8_busy_176 : decode cX8_busy 176 = .ok (.bipush (-9), 2) := by decide +kernel
theorem dX8_busy_178 : decode cX8_busy 178 = .ok (.goto 17, 3) := by decide +kernel
theorem dX8_busy_181 : decode cX8_busy 181 = .ok (.iload_n 2, 1) := by decide +kernel
theorem dX8_busy_182 : decode cX8_busy 182 = .ok (.ifCond .ne 11, 3) := by decide +kernel
theorem dX8_busy_185 : decode cX8_busy 185 = .ok (.iload 4, 2) := by decide +kernel
theorem dX8_busy_187 : decode cX8_busy 187 = .ok (.invokestatic 186, 3) := by decide +kernel
theorem dX8_busy_190 : decode cX8_busy 190 = .ok (.goto 5, 3) := by decide +kernel
theorem dX8_busy_193 : decode cX8_busy 193 = .ok (.iload 4, 2) := by decide +kernel
theorem dX8_busy_195 : decode cX8_busy 195 = .ok (.ireturn, 1) := by decide +kernel
set_option maxRecDepth 20000 in
theorem ggX8_blanket_X8_isWall : GoodIn wsX8_blanket wsX8_isWall := goodIn_r _ [11, 3, 12, 13, 10, 14, 37, 38, 39, 40, 41, 42, 43, 44, 45, 46, 47, 48, 49, 50, 51, 52, 53, 54, 55, 56, 57, 58, 59, 60, 61, 62, 63, 64, 65, 66, 67, 68, 69] (by decide +kernel) (by decide +kernel)
set_option maxRecDepth 20000 in
theorem gX8_blanket_X8_isWall : GoodIn wsX8_blanket (wsV RX8 175 RX8 yX8_isWall wsX8_isWall) := goodIn_app (goodIn_of _ (by decide +kernel)) ggX8_blanket_X8_isWall
set_option maxRecDepth 20000 in
theorem ggX8_blanket_X8_in : GoodIn wsX8_blanket wsX8_in := goodIn_r _ [14] (by decide +kernel) (by decide +kernel)
set_option maxRecDepth 20000 in
theorem gX8_blanket_X8_in : GoodIn wsX8_blanket (va_wsS RX8 67 yX8_in wsX8_in) := goodIn_app (goodIn_of _ (by decide +kernel)) ggX8_blanket_X8_in
set_option maxRecDepth 20000 in
theorem ggX8_blanket_X8_many : GoodIn wsX8_blanket wsX8_many := goodIn_r _ [17] (by decide +kernel) (by decide +kernel)
set_option maxRecDepth 20000 in
theorem gX8_blanket_X8_many : GoodIn wsX8_blanket (va_wsS RX8 186 yX8_many wsX8_many) := goodIn_app (goodIn_of _ (by decide +kernel)) ggX8_blanket_X8_many
set_option maxRecDepth 20000 in
theorem ggX8_blanket_X8_begins : GoodIn wsX8_blanket wsX8_begins := goodIn_r _ [21, 3, 6, 22, 37, 38, 39, 40, 41, 42, 43, 44, 45, 46, 47, 48, 49, 50, 51, 52, 53, 54, 55, 56, 57, 58, 59, 60, 61, 62, 63, 64, 65, 66, 67, 68, 69] (by decide +kernel) (by decide +kernel)
set_option maxRecDepth 20000 in
theorem gX8_blanket_X8_begins : GoodIn wsX8_blanket (wsV RX8 192 RX8 yX8_begins wsX8_begins) := goodIn_app (goodIn_of _ (by decide +kernel)) ggX8_blanket_X8_begins
set_option maxRecDepth 20000 in
theorem ggX8_blanket_X8_passes : GoodIn wsX8_blanket wsX8_passes := goodIn_r _ [26, 6, 27, 28, 29, 30, 10, 31, 3, 32, 33, 34, 35, 36, 37, 38, 39, 40, 41, 42, 43, 44, 45, 46, 47, 48, 49, 50, 51, 52, 53, 54, 55, 56, 57, 58, 59, 60, 61, 62, 63, 64, 65, 66, 67, 68, 69] (by decide +kernel) (by decide +kernel)
set_option maxRecDepth 20000 in
theorem gX8_blanket_X8_passes : GoodIn wsX8_blanket (wsV RX8 195 RX8 yX8_passes wsX8_passes) := goodIn_app (goodIn_of _ (by decide +kernel)) ggX8_blanket_X8_passes
theorem dX8_blanket_0 : decode cX8_blanket 0 = .ok (.aload_n 0, 1) := by decide +kernel
theorem dX8_blanket_1 : decode cX8_blanket 1 = .ok (.iload_n 1, 1) := by decide +kernel
theorem dX8_blanket_2 : decode cX8_blanket 2 = .ok (.invokevirtual 175, 3) := by decide +kernel
theorem dX8_blanket_5 : decode cX8_blanket 5 = .ok (.ifCond .eq 27, 3) := by decide +kernel
theorem dX8_blanket_8 : decode cX8_blanket 8 = .ok (.iload_n 2, 1) := by decide +kernel
theorem dX8_blanket_9 : decode cX8_blanket 9 = .ok (.i2l, 1) := by decide +kernel
theorem dX8_blanket_10 : decode cX8_blanket 10 = .ok (.lconst 0, 1) := by decide +kernel
theorem dX8_blanket_11 : decode cX8_blanket 11 = .ok (.ldc2_w 205, 3) := by decide +kernel
theorem dX8_blanket_14 : decode cX8_blanket 14 = .ok (.invokestatic 67, 3) := by decide +kernel
theorem dX8_blanket_17 : decode cX8_blanket 17 = .ok (.ifCond .eq 15, 3) := by decide +kernel
theorem dX8_blanket_20 : decode cX8_blanket 20 = .ok (.iload_n 3, 1) := by decide +kernel
theorem dX8_blanket_21 : decode cX8_blanket 21 = .ok (.i2l, 1) := by decide +kernel
theorem dX8_blanket_22 : decode cX8_blanket 22 = .ok (.lconst 0, 1) := by decide +kernel
theorem dX8_blanket_23 : decode cX8_blanket 23 = .ok (.ldc2_w 203, 3) := by decide +kernel
theorem dX8_blanket_26 : decode cX8_blanket 26 = .ok (.invokestatic 67, 3) := by decide +kernel
theorem dX8_blanket_29 : decode cX8_blanket 29 = .ok (.ifCond .ne 5, 3) := by decide +kernel
theorem dX8_blanket_32 : decode cX8_blanket 32 = .ok (.iconst (-1), 1) := by decide +kernel
theorem dX8_blanket_33 : decode cX8_blanket 33 = .ok (.ireturn, 1) := by decide +kernel
theorem dX8_blanket_34 : decode cX8_blanket 34 = .ok (.bipush (-9), 2) := by decide +kernel
theorem dX8_blanket_36 : decode cX8_blanket 36 = .ok (.istore 4, 2) := by decide +kernel
theorem dX8_blanket_38 : decode cX8_blanket 38 = .ok (.iconst 0, 1) := by decide +kernel
theorem dX8_blanket_39 : decode cX8_blanket 39 = .ok (.istore 5, 2) := by decide +kernel
theorem dX8_blanket_41 : decode cX8_blanket 41 = .ok (.iload 5, 2) := by decide +kernel
theorem dX8_blanket_43 : decode cX8_blanket 43 = .ok (.iconst 1, 1) := by decide +kernel
theorem dX8_blanket_44 : decode cX8_blanket 44 = .ok (.aload_n 0, 1) := by decide +kernel
theorem dX8_blanket_45 : decode cX8_blanket 45 = .ok (.getfield 154, 3) := by decide +kernel
theorem dX8_blanket_48 : decode cX8_blanket 48 = .ok (.ishl, 1) := by decide +kernel
theorem dX8_blanket_49 : decode cX8_blanket 49 = .ok (.if_icmp .ge 94, 3) := by decide +kernel
theorem dX8_blanket_52 : decode cX8_blanket 52 = .ok (.iload 5, 2) := by decide +kernel
theorem dX8_blanket_54 : decode cX8_blanket 54 = .ok (.aload_n 0, 1) := by decide +kernel
theorem dX8_blanket_55 : decode cX8_blanket 55 = .ok (.getfield 163, 3) := by decide +kernel
theorem dX8_blanket_58 : decode cX8_blanket 58 = .ok (.iconst 1, 1) := by decide +kernel
theorem dX8_blanket_59 : decode cX8_blanket 59 = .ok (.iload_n 1, 1) := by decide +kernel
theorem dX8_blanket_60 : decode cX8_blanket 60 = .ok (.ishl, 1) := by decide +kernel
theorem dX8_blanket_61 : decode cX8_blanket 61 = .ok (.ior, 1) := by decide +kernel
theorem dX8_blanket_62 : decode cX8_blanket 62 = .ok (.iand, 1) := by decide +kernel
theorem dX8_blanket_63 : decode cX8_blanket 63 = .ok (.ifCond .ne 27, 3) := by decide +kernel
theorem dX8_blanket_66 : decode cX8_blanket 66 = .ok (.iload 4, 2) := by decide +kernel
theorem dX8_blanket_68 : decode cX8_blanket 68 = .ok (.bipush (-9), 2) := by decide +kernel
theorem dX8_blanket_70 : decode cX8_blanket 70 = .ok (.if_icmp .eq 16, 3) := by decide +kernel
theorem dX8_blanket_73 : decode cX8_blanket 73 = .ok (.iload 5, 2) := by decide +kernel
theorem dX8_blanket_75 : decode cX8_blanket 75 = .ok (.invokestatic 186, 3) := by decide +kernel
theorem dX8_blanket_78 : decode cX8_blanket 78 = .ok (.iload 4, 2) := by decide +kernel
theorem dX8_blanket_80 : decode cX8_blanket 80 = .ok (.invokestatic 186, 3) := by decide +kernel
theorem dX8_blanket_83 : decode cX8_blanket 83 = .ok (.if_icmp .ge 7, 3) := by decide +kernel
theorem dX8_blanket_86 : decode cX8_blanket 86 = .ok (.iconst 1, 1) := by decide +kernel
theorem dX8_blanket_87 : decode cX8_blanket 87 = .ok (.goto 4, 3) := by decide +kernel
theorem dX8_blanket_90 : decode cX8_blanket 90 = .ok (.iconst 0, 1) := by decide +kernel
theorem dX8_blanket_91 : decode cX8_blanket 91 = .ok (.istore 6, 2) := by decide +kernel
theorem dX8_blanket_93 : decode cX8_blanket 93 = .ok (.iload 6, 2) := by decide +kernel
theorem dX8_blanket_95 : decode cX8_blanket 95 = .ok (.ifCond .eq 42, 3) := by decide +kernel
theorem dX8_blanket_98 : decode cX8_blanket 98 = .ok (.aload_n 0, 1) := by decide +kernel
theorem dX8_blanket_99 : decode cX8_blanket 99 = .ok (.invokevirtual 192, 3) := by decide +kernel
theorem dX8_blanket_102 : decode cX8_blanket 102 = .ok (.aload_n 0, 1) := by decide +kernel
theorem dX8_blanket_103 : decode cX8_blanket 103 = .ok (.iload_n 3, 1) := by decide +kernel
theorem dX8_blanket_104 : decode cX8_blanket 104 = .ok (.aload_n 0, 1) := by decide +kernel
theorem dX8_blanket_105 : decode cX8_blanket 105 = .ok (.getfield 160, 3) := by decide +kernel
theorem dX8_blanket_108 : decode cX8_blanket 108 = .ok (.aload_n 0, 1) := by decide +kernel
theorem dX8_blanket_109 : decode cX8_blanket 109 = .ok (.getfield 163, 3) := by decide +kernel
theorem dX8_blanket_112 : decode cX8_blanket 112 = .ok (.iload 5, 2) := by decide +kernel
theorem dX8_blanket_114 : decode cX8_blanket 114 = .ok (.ior, 1) := by decide +kernel
theorem dX8_blanket_115 : decode cX8_blanket 115 = .ok (.invokevirtual 195, 3) := by decide +kernel
theorem dX8_blanket_118 : decode cX8_blanket 118 = .ok (.aload_n 0, 1) := by decide +kernel
theorem dX8_blanket_119 : decode cX8_blanket 119 = .ok (.getfield 43, 3) := by decide +kernel
theorem dX8_blanket_122 : decode cX8_blanket 122 = .ok (.iload_n 1, 1) := by decide +kernel
theorem dX8_blanket_123 : decode cX8_blanket 123 = .ok (.iaload, 1) := by decide +kernel
theorem dX8_blanket_124 : decode cX8_blanket 124 = .ok (.iload_n 2, 1) := by decide +kernel
theorem dX8_blanket_125 : decode cX8_blanket 125 = .ok (.if_icmp .lt 8, 3) := by decide +kernel
theorem dX8_blanket_128 : decode cX8_blanket 128 = .ok (.iload 5, 2) := by decide +kernel
theorem dX8_blanket_130 : decode cX8_blanket 130 = .ok (.goto 5, 3) := by decide +kernel
theorem dX8_blanket_133 : decode cX8_blanket 133 = .ok (.iload 4, 2) := by decide +kernel
theorem dX8_blanket_135 : decode cX8_blanket 135 = .ok (.istore 4, 2) := by decide +kernel
theorem dX8_blanket_137 : decode cX8_blanket 137 = .ok (.iinc 5 1, 3) := by decide +kernel
theorem dX8_blanket_140 : decode cX8_blanket 140 = .ok (.goto (-99), 3) := by decide +kernel
theorem dX8_blanket_143 : decode cX8_blanket 143 = .ok (.iload 4, 2) := by decide +kernel
theorem dX8_blanket_145 : decode cX8_blanket 145 = .ok (.ireturn, 1) := by decide +kernel
set_option maxRecDepth 20000 in
theorem ggX8_sumWith_X8_begins : GoodIn wsX8_sumWith wsX8_begins := goodIn_r _ [10, 5, 1, 11, 21, 22, 23, 24, 25, 26, 27, 28, 29, 30, 31, 32, 33, 34, 35, 36, 37, 38, 39, 40, 41, 42, 43, 44, 45, 46, 47, 48, 49, 50, 51, 52, 53] (by decide +kernel) (by decide +kernel)
set_option maxRecDepth 20000 in
theorem gX8_sumWith_X8_begins : GoodIn wsX8_sumWith (wsV RX8 192 RX8 yX8_begins wsX8_begins) := goodIn_app (goodIn_of _ (by decide +kernel)) ggX8_sumWith_X8_begins
set_option maxRecDepth 20000 in
theorem ggX8_sumWith_X8_goes : GoodIn wsX8_sumWith wsX8_goes := goodIn_r _ [15, 5, 16, 17, 18, 19, 20, 21, 22, 23, 24, 25, 26, 27, 28, 29, 30, 31, 32, 33, 34, 35, 36, 37, 38, 39, 40, 41, 42, 43, 44, 45, 46, 47, 48, 49, 50, 51, 52, 53] (by decide +kernel) (by decide +kernel)
set_option maxRecDepth 20000 in
theorem gX8_sumWith_X8_goes : GoodIn wsX8_sumWith (wsV RX8 178 RX8 yX8_goes wsX8_goes) := goodIn_app (goodIn_of _ (by decide +kernel)) ggX8_sumWith_X8_goes
theorem dX8_sumWith_0 : decode cX8_sumWith 0 = .ok (.aload_n 0, 1) := by decide +kernel
theorem dX8_sumWith_1 : decode cX8_sumWith 1 = .ok (.invokevirtual 192, 3) := by decide +kernel
theorem dX8_sumWith_4 : decode cX8_sumWith 4 = .ok (.iconst 0, 1) := by decide +kernel
theorem dX8_sumWith_5 : decode cX8_sumWith 5 = .ok (.istore_n 3, 1) := by decide +kernel
theorem dX8_sumWith_6 : decode cX8_sumWith 6 = .ok (.iload_n 3, 1) := by decide +kernel
theorem dX8_sumWith_7 : decode cX8_sumWith 7 = .ok (.bipush 8, 2) := by decide +kernel
theorem dX8_sumWith_9 : decode cX8_sumWith 9 = .ok (.if_icmp .ge 46, 3) := by decide +kernel
theorem dX8_sumWith_12 : decode cX8_sumWith 12 = .ok (.aload_n 0, 1) := by decide +kernel
theorem dX8_sumWith_13 : decode cX8_sumWith 13 = .ok (.aload_n 0, 1) := by decide +kernel
theorem dX8_sumWith_14 : decode cX8_sumWith 14 = .ok (.getfield 43, 3) := by decide +kernel
theorem dX8_sumWith_17 : decode cX8_sumWith 17 = .ok (.aload_n 0, 1) := by decide +kernel
theorem dX8_sumWith_18 : decode cX8_sumWith 18 = .ok (.getfield 157, 3) := by decide +kernel
theorem dX8_sumWith_21 : decode cX8_sumWith 21 = .ok (.iload_n 3, 1) := by decide +kernel
theorem dX8_sumWith_22 : decode cX8_sumWith 22 = .ok (.iadd, 1) := by decide +kernel
theorem dX8_sumWith_23 : decode cX8_sumWith 23 = .ok (.aload_n 0, 1) := by decide +kernel
theorem dX8_sumWith_24 : decode cX8_sumWith 24 = .ok (.getfield 160, 3) := by decide +kernel
theorem dX8_sumWith_27 : decode cX8_sumWith 27 = .ok (.aload_n 0, 1) := by decide +kernel
theorem dX8_sumWith_28 : decode cX8_sumWith 28 = .ok (.getfield 163, 3) := by decide +kernel
theorem dX8_sumWith_31 : decode cX8_sumWith 31 = .ok (.invokevirtual 178, 3) := by decide +kernel
theorem dX8_sumWith_34 : decode cX8_sumWith 34 = .ok (.pop, 1) := by decide +kernel
theorem dX8_sumWith_35 : decode cX8_sumWith 35 = .ok (.iload_n 1, 1) := by decide +kernel
theorem dX8_sumWith_36 : decode cX8_sumWith 36 = .ok (.ifCond .lt 13, 3) := by decide +kernel
theorem dX8_sumWith_39 : decode cX8_sumWith 39 = .ok (.aload_n 0, 1) := by decide +kernel
theorem dX8_sumWith_40 : decode cX8_sumWith 40 = .ok (.getfield 43, 3) := by decide +kernel
theorem dX8_sumWith_43 : decode cX8_sumWith 43 = .ok (.iload_n 1, 1) := by decide +kernel
theorem dX8_sumWith_44 : decode cX8_sumWith 44 = .ok (.dup2, 1) := by decide +kernel
theorem dX8_sumWith_45 : decode cX8_sumWith 45 = .ok (.iaload, 1) := by decide +kernel
theorem dX8_sumWith_46 : decode cX8_sumWith 46 = .ok (.iload_n 2, 1) := by decide +kernel
theorem dX8_sumWith_47 : decode cX8_sumWith 47 = .ok (.iadd, 1) := by decide +kernel
theorem dX8_sumWith_48 : decode cX8_sumWith 48 = .ok (.iastore, 1) := by decide +kernel
theorem dX8_sumWith_49 : decode cX8_sumWith 49 = .ok (.iinc 3 1, 3) := by decide +kernel
theorem dX8_sumWith_52 : decode cX8_sumWith 52 = .ok (.goto (-46), 3) := by decide +kernel
theorem dX8_sumWith_55 : decode cX8_sumWith 55 = .ok (.iconst 0, 1) := by decide +kernel
theorem dX8_sumWith_56 : decode cX8_sumWith 56 = .ok (.istore_n 3, 1) := by decide +kernel
theorem dX8_sumWith_57 : decode cX8_sumWith 57 = .ok (.iconst 0, 1) := by decide +kernel
theorem dX8_sumWith_58 : decode cX8_sumWith 58 = .ok (.istore 4, 2) := by decide +kernel
theorem dX8_sumWith_60 : decode cX8_sumWith 60 = .ok (.iload 4, 2) := by decide +kernel
theorem dX8_sumWith_62 : decode cX8_sumWith 62 = .ok (.aload_n 0, 1) := by decide +kernel
theorem dX8_sumWith_63 : decode cX8_sumWith 63 = .ok (.getfield 154, 3) := by decide +kernel
theorem dX8_sumWith_66 : decode cX8_sumWith 66 = .ok (.if_icmp .ge 19, 3) := by decide +kernel
theorem dX8_sumWith_69 : decode cX8_sumWith 69 = .ok (.iload_n 3, 1) := by decide +kernel
theorem dX8_sumWith_70 : decode cX8_sumWith 70 = .ok (.aload_n 0, 1) := by decide +kernel
theorem dX8_sumWith_71 : decode cX8_sumWith 71 = .ok (.getfield 43, 3) := by decide +kernel
theorem dX8_sumWith_74 : decode cX8_sumWith 74 = .ok (.iload 4, 2) := by decide +kernel
theorem dX8_sumWith_76 : decode cX8_sumWith 76 = .ok (.iaload, 1) := by decide +kernel
theorem dX8_sumWith_77 : decode cX8_sumWith 77 = .ok (.iadd, 1) := by decide +kernel
theorem dX8_sumWith_78 : decode cX8_sumWith 78 = .ok (.istore_n 3, 1) := by decide +kernel
theorem dX8_sumWith_79 : decode cX8_sumWith 79 = .ok (.iinc 4 1, 3) := by decide +kernel
theorem dX8_sumWith_82 : decode cX8_sumWith 82 = .ok (.goto (-22), 3) := by decide +kernel
theorem dX8_sumWith_85 : decode cX8_sumWith 85 = .ok (.iload_n 3, 1) := by decide +kernel
theorem dX8_sumWith_86 : decode cX8_sumWith 86 = .ok (.ireturn, 1) := by decide +kernel
set_option maxRecDepth 20000 in
theorem ggX8_harm_X8_isWall : GoodIn wsX8_harm wsX8_isWall := goodIn_r _ [8, 3, 9, 10, 7, 11, 34, 35, 36, 37, 38, 39, 40, 41, 42, 43, 44, 45, 46, 47, 48, 49, 50, 51, 52, 53, 54, 55, 56, 57, 58, 59, 60, 61, 62, 63, 64, 65, 66] (by decide +kernel) (by decide +kernel)
set_option maxRecDepth 20000 in
theorem gX8_harm_X8_isWall : GoodIn wsX8_harm (wsV RX8 175 RX8 yX8_isWall wsX8_isWall) := goodIn_app (goodIn_of _ (by decide +kernel)) ggX8_harm_X8_isWall
set_option maxRecDepth 20000 in
theorem ggX8_harm_X8_in : GoodIn wsX8_harm wsX8_in := goodIn_r _ [11] (by decide +kernel) (by decide +kernel)
set_option maxRecDepth 20000 in
theorem gX8_harm_X8_in : GoodIn wsX8_harm (va_wsS RX8 67 yX8_in wsX8_in) := goodIn_app (goodIn_of _ (by decide +kernel)) ggX8_harm_X8_in
set_option maxRecDepth 20000 in
theorem ggX8_harm_X8_sumWith : GoodIn wsX8_harm wsX8_sumWith := goodIn_r _ [15, 16, 17, 18, 19, 3, 20, 21, 22, 7, 23, 24, 25, 26, 27, 28, 29, 30, 31, 32, 33, 34, 35, 36, 37, 38, 39, 40, 41, 42, 43, 44, 45, 46, 47, 48, 49, 50, 51, 52, 53, 54, 55, 56, 57, 58, 59, 60, 61, 62, 63, 64, 65, 66] (by decide +kernel) (by decide +kernel)
set_option maxRecDepth 20000 in
theorem gX8_harm_X8_sumWith : GoodIn wsX8_harm (wsV RX8 208 RX8 yX8_sumWith wsX8_sumWith) := goodIn_app (goodIn_of _ (by decide +kernel)) ggX8_harm_X8_sumWith
theorem dX8_harm_0 : decode cX8_harm 0 = .ok (.iload_n 1, 1) := by decide +kernel
theorem dX8_harm_1 : decode cX8_harm 1 = .ok (.iconst (-1), 1) := by decide +kernel
theorem dX8_harm_2 : decode cX8_harm 2 = .ok (.if_icmp .eq 11, 3) := by decide +kernel
theorem dX8_harm_5 : decode cX8_harm 5 = .ok (.aload_n 0, 1) := by decide +kernel
theorem dX8_harm_6 : decode cX8_harm 6 = .ok (.iload_n 1, 1) := by decide +kernel
theorem dX8_harm_7 : decode cX8_harm 7 = .ok (.invokevirtual 175, 3) := by decide +kernel
theorem dX8_harm_10 : decode cX8_harm 10 = .ok (.ifCond .eq 15, 3) := by decide +kernel
theorem dX8_harm_13 : decode cX8_harm 13 = .ok (.iload_n 2, 1) := by decide +kernel
theorem dX8_harm_14 : decode cX8_harm 14 = .ok (.i2l, 1) := by decide +kernel
theorem dX8_harm_15 : decode cX8_harm 15 = .ok (.lconst 1, 1) := by decide +kernel
theorem dX8_harm_16 : decode cX8_harm 16 = .ok (.ldc2_w 190, 3) := by decide +kernel
theorem dX8_harm_19 : decode cX8_harm 19 = .ok (.invokestatic 67, 3) := by decide +kernel
theorem dX8_harm_22 : decode cX8_harm 22 = .ok (.ifCond .ne 6, 3) := by decide +kernel
theorem dX8_harm_25 : decode cX8_harm 25 = .ok (.ldc 207, 2) := by decide +kernel
theorem dX8_harm_27 : decode cX8_harm 27 = .ok (.ireturn, 1) := by decide +kernel
theorem dX8_harm_28 : decode cX8_harm 28 = .ok (.iload_n 1, 1) := by decide +kernel
theorem dX8_harm_29 : decode cX8_harm 29 = .ok (.ifCond .lt 17, 3) := by decide +kernel
theorem dX8_harm_32 : decode cX8_harm 32 = .ok (.aload_n 0, 1) := by decide +kernel
theorem dX8_harm_33 : decode cX8_harm 33 = .ok (.iload_n 1, 1) := by decide +kernel
theorem dX8_harm_34 : decode cX8_harm 34 = .ok (.iload_n 2, 1) := by decide +kernel
theorem dX8_harm_35 : decode cX8_harm 35 = .ok (.invokevirtual 208, 3) := by decide +kernel
theorem dX8_harm_38 : decode cX8_harm 38 = .ok (.aload_n 0, 1) := by decide +kernel
theorem dX8_harm_39 : decode cX8_harm 39 = .ok (.iconst (-1), 1) := by decide +kernel
theorem dX8_harm_40 : decode cX8_harm 40 = .ok (.iconst 0, 1) := by decide +kernel
theorem dX8_harm_41 : decode cX8_harm 41 = .ok (.invokevirtual 208, 3) := by decide +kernel
theorem dX8_harm_44 : decode cX8_harm 44 = .ok (.isub, 1) := by decide +kernel
theorem dX8_harm_45 : decode cX8_harm 45 = .ok (.ireturn, 1) := by decide +kernel
theorem dX8_harm_46 : decode cX8_harm 46 = .ok (.bipush (-9), 2) := by decide +kernel
theorem dX8_harm_48 : decode cX8_harm 48 = .ok (.istore_n 3, 1) := by decide +kernel
theorem dX8_harm_49 : decode cX8_harm 49 = .ok (.iconst 0, 1) := by decide +kernel
theorem dX8_harm_50 : decode cX8_harm 50 = .ok (.istore 4, 2) := by decide +kernel
theorem dX8_harm_52 : decode cX8_harm 52 = .ok (.iconst 0, 1) := by decide +kernel
theorem dX8_harm_53 : decode cX8_harm 53 = .ok (.istore 5, 2) := by decide +kernel
theorem dX8_harm_55 : decode cX8_harm 55 = .ok (.iload 5, 2) := by decide +kernel
theorem dX8_harm_57 : decode cX8_harm 57 = .ok (.aload_n 0, 1) := by decide +kernel
theorem dX8_harm_58 : decode cX8_harm 58 = .ok (.getfield 154, 3) := by decide +kernel
theorem dX8_harm_61 : decode cX8_harm 61 = .ok (.if_icmp .ge 64, 3) := by decide +kernel
theorem dX8_harm_64 : decode cX8_harm 64 = .ok (.aload_n 0, 1) := by decide +kernel
theorem dX8_harm_65 : decode cX8_harm 65 = .ok (.iload 5, 2) := by decide +kernel
theorem dX8_harm_67 : decode cX8_harm 67 = .ok (.iload_n 2, 1) := by decide +kernel
theorem dX8_harm_68 : decode cX8_harm 68 = .ok (.invokevirtual 208, 3) := by decide +kernel
theorem dX8_harm_71 : decode cX8_harm 71 = .ok (.istore 6, 2) := by decide +kernel
theorem dX8_harm_73 : decode cX8_harm 73 = .ok (.iload_n 3, 1) := by decide +kernel
theorem dX8_harm_74 : decode cX8_harm 74 = .ok (.bipush (-9), 2) := by decide +kernel
theorem dX8_harm_76 : decode cX8_harm 76 = .ok (.if_icmp .eq 10, 3) := by decide +kernel
theorem dX8_harm_79 : decode cX8_harm 79 = .ok (.iload 6, 2) := by decide +kernel
theorem dX8_harm_81 : decode cX8_harm 81 = .ok (.iload 4, 2) := by decide +kernel
theorem dX8_harm_83 : decode cX8_harm 83 = .ok (.if_icmp .ge 7, 3) := by decide +kernel
theorem dX8_harm_86 : decode cX8_harm 86 = .ok (.iconst 1, 1) := by decide +kernel
theorem dX8_harm_87 : decode cX8_harm 87 = .ok (.goto 4, 3) := by decide +kernel
theorem dX8_harm_90 : decode cX8_harm 90 = .ok (.iconst 0, 1) := by decide +kernel
theorem dX8_harm_91 : decode cX8_harm 91 = .ok (.istore 7, 2) := by decide +kernel
theorem dX8_harm_93 : decode cX8_harm 93 = .ok (.iload 7, 2) := by decide +kernel
theorem dX8_harm_95 : decode cX8_harm 95 = .ok (.ifCond .eq 8, 3) := by decide +kernel
theorem dX8_harm_98 : decode cX8_harm 98 = .ok (.iload 5, 2) := by decide +kernel
theorem dX8_harm_100 : decode cX8_harm 100 = .ok (.goto 4, 3) := by decide +kernel
theorem dX8_harm_103 : decode cX8_harm 103 = .ok (.iload_n 3, 1) := by decide +kernel
theorem dX8_harm_104 : decode cX8_harm 104 = .ok (.istore_n 3, 1) := by decide +kernel
theorem dX8_harm_105 : decode cX8_harm 105 = .ok (.iload 7, 2) := by decide +kernel
theorem dX8_harm_107 : decode cX8_harm 107 = .ok (.ifCond .eq 8, 3) := by decide +kernel
theorem dX8_harm_110 : decode cX8_harm 110 = .ok (.iload 6, 2) := by decide +kernel
theorem dX8_harm_112 : decode cX8_harm 112 = .ok (.goto 5, 3) := by decide +kernel
theorem dX8_harm_115 : decode cX8_harm 115 = .ok (.iload 4, 2) := by decide +kernel
theorem dX8_harm_117 : decode cX8_harm 117 = .ok (.istore 4, 2) := by decide +kernel
theorem dX8_harm_119 : decode cX8_harm 119 = .ok (.iinc 5 1, 3) := by decide +kernel
theorem dX8_harm_122 : decode cX8_harm 122 = .ok (.goto (-67), 3) := by decide +kernel
theorem dX8_harm_125 : decode cX8_harm 125 = .ok (.iload_n 3, 1) := by decide +kernel
theorem dX8_harm_126 : decode cX8_harm 126 = .ok (.ireturn, 1) := by decide +kernel
set_option maxRecDepth 20000 in
theorem ggX8_saw_X8_in : GoodIn wsX8_saw wsX8_in := goodIn_r _ [10] (by decide +kernel) (by decide +kernel)
set_option maxRecDepth 20000 in
theorem gX8_saw_X8_in : GoodIn wsX8_saw (va_wsS RX8 67 yX8_in wsX8_in) := goodIn_app (goodIn_of _ (by decide +kernel)) ggX8_saw_X8_in
set_option maxRecDepth 20000 in
theorem ggX8_saw_X8_isWall : GoodIn wsX8_saw wsX8_isWall := goodIn_r _ [14, 15, 7, 8, 9, 10, 16, 17, 18, 19, 20, 21, 22, 23, 24, 25, 26, 27, 28, 29, 30, 31, 32, 33, 34, 35, 36, 37, 38, 39, 40, 41, 42, 43, 44, 45, 46, 47, 48] (by decide +kernel) (by decide +kernel)
set_option maxRecDepth 20000 in
theorem gX8_saw_X8_isWall : GoodIn wsX8_saw (wsV RX8 175 RX8 yX8_isWall wsX8_isWall) := goodIn_app (goodIn_of _ (by decide +kernel)) ggX8_saw_X8_isWall
theorem dX8_saw_0 : decode cX8_saw 0 = .ok (.iload_n 1, 1) := by decide +kernel
theorem dX8_saw_1 : decode cX8_saw 1 = .ok (.i2l, 1) := by decide +kernel
theorem dX8_saw_2 : decode cX8_saw 2 = .ok (.lconst 0, 1) := by decide +kernel
theorem dX8_saw_3 : decode cX8_saw 3 = .ok (.ldc2_w 203, 3) := by decide +kernel
theorem dX8_saw_6 : decode cX8_saw 6 = .ok (.invokestatic 67, 3) := by decide +kernel
theorem dX8_saw_9 : decode cX8_saw 9 = .ok (.ifCond .eq 23, 3) := by decide +kernel
theorem dX8_saw_12 : decode cX8_saw 12 = .ok (.aload_n 0, 1) := by decide +kernel
theorem dX8_saw_13 : decode cX8_saw 13 = .ok (.iload_n 2, 1) := by decide +kernel
theorem dX8_saw_14 : decode cX8_saw 14 = .ok (.invokevirtual 175, 3) := by decide +kernel
theorem dX8_saw_17 : decode cX8_saw 17 = .ok (.ifCond .eq 15, 3) := by decide +kernel
theorem dX8_saw_20 : decode cX8_saw 20 = .ok (.iload_n 3, 1) := by decide +kernel
theorem dX8_saw_21 : decode cX8_saw 21 = .ok (.i2l, 1) := by decide +kernel
theorem dX8_saw_22 : decode cX8_saw 22 = .ok (.lconst 0, 1) := by decide +kernel
theorem dX8_saw_23 : decode cX8_saw 23 = .ok (.ldc2_w 211, 3) := by decide +kernel
theorem dX8_saw_26 : decode cX8_saw 26 = .ok (.invokestatic 67, 3) := by decide +kernel
theorem dX8_saw_29 : decode cX8_saw 29 = .ok (.ifCond .ne 5, 3) := by decide +kernel
theorem dX8_saw_32 : decode cX8_saw 32 = .ok (.iconst (-1), 1) := by decide +kernel
theorem dX8_saw_33 : decode cX8_saw 33 = .ok (.ireturn, 1) := by decide +kernel
theorem dX8_saw_34 : decode cX8_saw 34 = .ok (.aload_n 0, 1) := by decide +kernel
theorem dX8_saw_35 : decode cX8_saw 35 = .ok (.getfield 172, 3) := by decide +kernel
theorem dX8_saw_38 : decode cX8_saw 38 = .ok (.bipush 8, 2) := by decide +kernel
theorem dX8_saw_40 : decode cX8_saw 40 = .ok (.if_icmp .ne 6, 3) := by decide +kernel
theorem dX8_saw_43 : decode cX8_saw 43 = .ok (.bipush (-3), 2) := by decide +kernel
theorem dX8_saw_45 : decode cX8_saw 45 = .ok (.ireturn, 1) := by decide +kernel
theorem dX8_saw_46 : decode cX8_saw 46 = .ok (.aload_n 0, 1) := by decide +kernel
theorem dX8_saw_47 : decode cX8_saw 47 = .ok (.getfield 49, 3) := by decide +kernel
theorem dX8_saw_50 : decode cX8_saw 50 = .ok (.aload_n 0, 1) := by decide +kernel
theorem dX8_saw_51 : decode cX8_saw 51 = .ok (.getfield 172, 3) := by decide +kernel
theorem dX8_saw_54 : decode cX8_saw 54 = .ok (.iload_n 1, 1) := by decide +kernel
theorem dX8_saw_55 : decode cX8_saw 55 = .ok (.iastore, 1) := by decide +kernel
theorem dX8_saw_56 : decode cX8_saw 56 = .ok (.aload_n 0, 1) := by decide +kernel
theorem dX8_saw_57 : decode cX8_saw 57 = .ok (.getfield 52, 3) := by decide +kernel
theorem dX8_saw_60 : decode cX8_saw 60 = .ok (.aload_n 0, 1) := by decide +kernel
theorem dX8_saw_61 : decode cX8_saw 61 = .ok (.getfield 172, 3) := by decide +kernel
theorem dX8_saw_64 : decode cX8_saw 64 = .ok (.iload_n 2, 1) := by decide +kernel
theorem dX8_saw_65 : decode cX8_saw 65 = .ok (.iastore, 1) := by decide +kernel
theorem dX8_saw_66 : decode cX8_saw 66 = .ok (.aload_n 0, 1) := by decide +kernel
theorem dX8_saw_67 : decode cX8_saw 67 = .ok (.getfield 55, 3) := by decide +kernel
theorem dX8_saw_70 : decode cX8_saw 70 = .ok (.aload_n 0, 1) := by decide +kernel
theorem dX8_saw_71 : decode cX8_saw 71 = .ok (.getfield 172, 3) := by decide +kernel
theorem dX8_saw_74 : decode cX8_saw 74 = .ok (.iload_n 3, 1) := by decide +kernel
theorem dX8_saw_75 : decode cX8_saw 75 = .ok (.iastore, 1) := by decide +kernel
theorem dX8_saw_76 : decode cX8_saw 76 = .ok (.aload_n 0, 1) := by decide +kernel
theorem dX8_saw_77 : decode cX8_saw 77 = .ok (.dup, 1) := by decide +kernel
theorem dX8_saw_78 : decode cX8_saw 78 = .ok (.getfield 172, 3) := by decide +kernel
theorem dX8_saw_81 : decode cX8_saw 81 = .ok (.iconst 1, 1) := by decide +kernel
theorem dX8_saw_82 : decode cX8_saw 82 = .ok (.iadd, 1) := by decide +kernel
theorem dX8_saw_83 : decode cX8_saw 83 = .ok (.putfield 172, 3) := by decide +kernel
theorem dX8_saw_86 : decode cX8_saw 86 = .ok (.aload_n 0, 1) := by decide +kernel
theorem dX8_saw_87 : decode cX8_saw 87 = .ok (.getfield 172, 3) := by decide +kernel
theorem dX8_saw_90 : decode cX8_saw 90 = .ok (.ireturn, 1) := by decide +kernel
theorem dX8_forget_0 : decode cX8_forget 0 = .ok (.aload_n 0, 1) := by decide +kernel
theorem dX8_forget_1 : decode cX8_forget 1 = .ok (.getfield 172, 3) := by decide +kernel
theorem dX8_forget_4 : decode cX8_forget 4 = .ok (.istore_n 1, 1) := by decide +kernel
theorem dX8_forget_5 : decode cX8_forget 5 = .ok (.aload_n 0, 1) := by decide +kernel
theorem dX8_forget_6 : decode cX8_forget 6 = .ok (.iconst 0, 1) := by decide +kernel
theorem dX8_forget_7 : decode cX8_forget 7 = .ok (.putfield 172, 3) := by decide +kernel
theorem dX8_forget_10 : decode cX8_forget 10 = .ok (.iload_n 1, 1) := by decide +kernel
theorem dX8_forget_11 : decode cX8_forget 11 = .ok (.ireturn, 1) := by decide +kernel
set_option maxRecDepth 20000 in
theorem ggX8_isSo_X8_goes : GoodIn wsX8_isSo wsX8_goes := goodIn_r _ [12, 1, 13, 14, 15, 16, 17, 18, 19, 20, 21, 22, 23, 24, 25, 26, 27, 28, 29, 30, 31, 32, 33, 34, 35, 36, 37, 38, 39, 40, 41, 42, 43, 44, 45, 46, 47, 48, 49, 50] (by decide +kernel) (by decide +kernel)
set_option maxRecDepth 20000 in
theorem gX8_isSo_X8_goes : GoodIn wsX8_isSo (wsV RX8 178 RX8 yX8_goes wsX8_goes) := goodIn_app (goodIn_of _ (by decide +kernel)) ggX8_isSo_X8_goes
theorem dX8_isSo_0 : decode cX8_isSo 0 = .ok (.iconst 0, 1) := by decide +kernel
theorem dX8_isSo_1 : decode cX8_isSo 1 = .ok (.istore_n 1, 1) := by decide +kernel
theorem dX8_isSo_2 : decode cX8_isSo 2 = .ok (.iload_n 1, 1) := by decide +kernel
theorem dX8_isSo_3 : decode cX8_isSo 3 = .ok (.aload_n 0, 1) := by decide +kernel
theorem dX8_isSo_4 : decode cX8_isSo 4 = .ok (.getfield 154, 3) := by decide +kernel
theorem dX8_isSo_7 : decode cX8_isSo 7 = .ok (.if_icmp .ge 21, 3) := by decide +kernel
theorem dX8_isSo_10 : decode cX8_isSo 10 = .ok (.aload_n 0, 1) := by decide +kernel
theorem dX8_isSo_11 : decode cX8_isSo 11 = .ok (.getfield 43, 3) := by decide +kernel
theorem dX8_isSo_14 : decode cX8_isSo 14 = .ok (.iload_n 1, 1) := by decide +kernel
theorem dX8_isSo_15 : decode cX8_isSo 15 = .ok (.aload_n 0, 1) := by decide +kernel
theorem dX8_isSo_16 : decode cX8_isSo 16 = .ok (.getfield 19, 3) := by decide +kernel
theorem dX8_isSo_19 : decode cX8_isSo 19 = .ok (.iload_n 1, 1) := by decide +kernel
theorem dX8_isSo_20 : decode cX8_isSo 20 = .ok (.iaload, 1) := by decide +kernel
theorem dX8_isSo_21 : decode cX8_isSo 21 = .ok (.iastore, 1) := by decide +kernel
theorem dX8_isSo_22 : decode cX8_isSo 22 = .ok (.iinc 1 1, 3) := by decide +kernel
theorem dX8_isSo_25 : decode cX8_isSo 25 = .ok (.goto (-23), 3) := by decide +kernel
theorem dX8_isSo_28 : decode cX8_isSo 28 = .ok (.iconst 0, 1) := by decide +kernel
theorem dX8_isSo_29 : decode cX8_isSo 29 = .ok (.istore_n 1, 1) := by decide +kernel
theorem dX8_isSo_30 : decode cX8_isSo 30 = .ok (.iload_n 1, 1) := by decide +kernel
theorem dX8_isSo_31 : decode cX8_isSo 31 = .ok (.bipush 20, 2) := by decide +kernel
theorem dX8_isSo_33 : decode cX8_isSo 33 = .ok (.if_icmp .gt 69, 3) := by decide +kernel
theorem dX8_isSo_36 : decode cX8_isSo 36 = .ok (.iconst 0, 1) := by decide +kernel
theorem dX8_isSo_37 : decode cX8_isSo 37 = .ok (.istore_n 2, 1) := by decide +kernel
theorem dX8_isSo_38 : decode cX8_isSo 38 = .ok (.iload_n 2, 1) := by decide +kernel
theorem dX8_isSo_39 : decode cX8_isSo 39 = .ok (.aload_n 0, 1) := by decide +kernel
theorem dX8_isSo_40 : decode cX8_isSo 40 = .ok (.getfield 172, 3) := by decide +kernel
theorem dX8_isSo_43 : decode cX8_isSo 43 = .ok (.if_icmp .ge 41, 3) := by decide +kernel
theorem dX8_isSo_46 : decode cX8_isSo 46 = .ok (.aload_n 0, 1) := by decide +kernel
theorem dX8_isSo_47 : decode cX8_isSo 47 = .ok (.getfield 49, 3) := by decide +kernel
theorem dX8_isSo_50 : decode cX8_isSo 50 = .ok (.iload_n 2, 1) := by decide +kernel
theorem dX8_isSo_51 : decode cX8_isSo 51 = .ok (.iaload, 1) := by decide +kernel
theorem dX8_isSo_52 : decode cX8_isSo 52 = .ok (.iload_n 1, 1) := by decide +kernel
theorem dX8_isSo_53 : decode cX8_isSo 53 = .ok (.if_icmp .ne 25, 3) := by decide +kernel
theorem dX8_isSo_56 : decode cX8_isSo 56 = .ok (.aload_n 0, 1) := by decide +kernel
theorem dX8_isSo_57 : decode cX8_isSo 57 = .ok (.getfield 43, 3) := by decide +kernel
theorem dX8_isSo_60 : decode cX8_isSo 60 = .ok (.aload_n 0, 1) := by decide +kernel
theorem dX8_isSo_61 : decode cX8_isSo 61 = .ok (.getfield 52, 3) := by decide +kernel
theorem dX8_isSo_64 : decode cX8_isSo 64 = .ok (.iload_n 2, 1) := by decide +kernel
theorem dX8_isSo_65 : decode cX8_isSo 65 = .ok (.iaload, 1) := by decide +kernel
theorem dX8_isSo_66 : decode cX8_isSo 66 = .ok (.iaload, 1) := by decide +kernel
theorem dX8_isSo_67 : decode cX8_isSo 67 = .ok (.aload_n 0, 1) := by decide +kernel
theorem dX8_isSo_68 : decode cX8_isSo 68 = .ok (.getfield 55, 3) := by decide +kernel
theorem dX8_isSo_71 : decode cX8_isSo 71 = .ok (.iload_n 2, 1) := by decide +kernel
theorem dX8_isSo_72 : decode cX8_isSo 72 = .ok (.iaload, 1) := by decide +kernel
theorem dX8_isSo_73 : decode cX8_isSo 73 = .ok (.if_icmp .eq 5, 3) := by decide +kernel
theorem dX8_isSo_76 : decode cX8_isSo 76 = .ok (.iconst 0, 1) := by decide +kernel
theorem dX8_isSo_77 : decode cX8_isSo 77 = .ok (.ireturn, 1) := by decide +kernel
theorem dX8_isSo_78 : decode cX8_isSo 78 = .ok (.iinc 2 1, 3) := by decide +kernel
theorem dX8_isSo_81 : decode cX8_isSo 81 = .ok (.goto (-43), 3) := by decide +kernel
theorem dX8_isSo_84 : decode cX8_isSo 84 = .ok (.aload_n 0, 1) := by decide +kernel
theorem dX8_isSo_85 : decode cX8_isSo 85 = .ok (.aload_n 0, 1) := by decide +kernel
theorem dX8_isSo_86 : decode cX8_isSo 86 = .ok (.getfield 43, 3) := by decide +kernel
theorem dX8_isSo_89 : decode cX8_isSo 89 = .ok (.iload_n 1, 1) := by decide +kernel
theorem dX8_isSo_90 : decode cX8_isSo 90 = .ok (.iconst 0, 1) := by decide +kernel
theorem dX8_isSo_91 : decode cX8_isSo 91 = .ok (.iconst 0, 1) := by decide +kernel
theorem dX8_isSo_92 : decode cX8_isSo 92 = .ok (.invokevirtual 178, 3) := by decide +kernel
theorem dX8_isSo_95 : decode cX8_isSo 95 = .ok (.pop, 1) := by decide +kernel
theorem dX8_isSo_96 : decode cX8_isSo 96 = .ok (.iinc 1 1, 3) := by decide +kernel
theorem dX8_isSo_99 : decode cX8_isSo 99 = .ok (.goto (-69), 3) := by decide +kernel
theorem dX8_isSo_102 : decode cX8_isSo 102 = .ok (.iconst 1, 1) := by decide +kernel
theorem dX8_isSo_103 : decode cX8_isSo 103 = .ok (.ireturn, 1) := by decide +kernel
set_option maxRecDepth 20000 in
theorem ggX8_hole_X8_isSo : GoodIn wsX8_hole wsX8_isSo := goodIn_r _ [6, 7, 8, 9, 10, 11, 12, 13, 14, 15, 16, 5, 17, 18, 19, 20, 1, 21, 22, 23, 24, 25, 26, 27, 28, 29, 30, 31, 32, 33, 34, 35, 36, 37, 38, 39, 40, 41, 42, 43, 44, 45, 46, 47, 48, 49, 50, 51, 52, 53, 54] (by decide +kernel) (by decide +kernel)
set_option maxRecDepth 20000 in
theorem gX8_hole_X8_isSo : GoodIn wsX8_hole (wsV RX8 213 RX8 yX8_isSo wsX8_isSo) := goodIn_app (goodIn_of _ (by decide +kernel)) ggX8_hole_X8_isSo
theorem dX8_hole_0 : decode cX8_hole 0 = .ok (.aload_n 0, 1) := by decide +kernel
theorem dX8_hole_1 : decode cX8_hole 1 = .ok (.getfield 22, 3) := by decide +kernel
theorem dX8_hole_4 : decode cX8_hole 4 = .ok (.iload_n 1, 1) := by decide +kernel
theorem dX8_hole_5 : decode cX8_hole 5 = .ok (.iaload, 1) := by decide +kernel
theorem dX8_hole_6 : decode cX8_hole 6 = .ok (.istore_n 2, 1) := by decide +kernel
theorem dX8_hole_7 : decode cX8_hole 7 = .ok (.bipush (-9), 2) := by decide +kernel
theorem dX8_hole_9 : decode cX8_hole 9 = .ok (.istore_n 3, 1) := by decide +kernel
theorem dX8_hole_10 : decode cX8_hole 10 = .ok (.iconst 0, 1) := by decide +kernel
theorem dX8_hole_11 : decode cX8_hole 11 = .ok (.istore 4, 2) := by decide +kernel
theorem dX8_hole_13 : decode cX8_hole 13 = .ok (.iload 4, 2) := by decide +kernel
theorem dX8_hole_15 : decode cX8_hole 15 = .ok (.bipush 10, 2) := by decide +kernel
theorem dX8_hole_17 : decode cX8_hole 17 = .ok (.if_icmp .ge 44, 3) := by decide +kernel
theorem dX8_hole_20 : decode cX8_hole 20 = .ok (.iload_n 3, 1) := by decide +kernel
theorem dX8_hole_21 : decode cX8_hole 21 = .ok (.bipush (-9), 2) := by decide +kernel
theorem dX8_hole_23 : decode cX8_hole 23 = .ok (.if_icmp .ne 38, 3) := by decide +kernel
theorem dX8_hole_26 : decode cX8_hole 26 = .ok (.aload_n 0, 1) := by decide +kernel
theorem dX8_hole_27 : decode cX8_hole 27 = .ok (.getfield 22, 3) := by decide +kernel
theorem dX8_hole_30 : decode cX8_hole 30 = .ok (.iload_n 1, 1) := by decide +kernel
theorem dX8_hole_31 : decode cX8_hole 31 = .ok (.iload 4, 2) := by decide +kernel
theorem dX8_hole_33 : decode cX8_hole 33 = .ok (.iastore, 1) := by decide +kernel
theorem dX8_hole_34 : decode cX8_hole 34 = .ok (.iload 4, 2) := by decide +kernel
theorem dX8_hole_36 : decode cX8_hole 36 = .ok (.iload_n 2, 1) := by decide +kernel
theorem dX8_hole_37 : decode cX8_hole 37 = .ok (.if_icmp .eq 15, 3) := by decide +kernel
theorem dX8_hole_40 : decode cX8_hole 40 = .ok (.aload_n 0, 1) := by decide +kernel
theorem dX8_hole_41 : decode cX8_hole 41 = .ok (.invokevirtual 213, 3) := by decide +kernel
theorem dX8_hole_44 : decode cX8_hole 44 = .ok (.ifCond .eq 8, 3) := by decide +kernel
theorem dX8_hole_47 : decode cX8_hole 47 = .ok (.iload 4, 2) := by decide +kernel
theorem dX8_hole_49 : decode cX8_hole 49 = .ok (.goto 5, 3) := by decide +kernel
theorem dX8_hole_52 : decode cX8_hole 52 = .ok (.bipush (-9), 2) := by decide +kernel
theorem dX8_hole_54 : decode cX8_hole 54 = .ok (.istore_n 3, 1) := by decide +kernel
theorem dX8_hole_55 : decode cX8_hole 55 = .ok (.iinc 4 1, 3) := by decide +kernel
theorem dX8_hole_58 : decode cX8_hole 58 = .ok (.goto (-45), 3) := by decide +kernel
theorem dX8_hole_61 : decode cX8_hole 61 = .ok (.aload_n 0, 1) := by decide +kernel
theorem dX8_hole_62 : decode cX8_hole 62 = .ok (.getfield 22, 3) := by decide +kernel
theorem dX8_hole_65 : decode cX8_hole 65 = .ok (.iload_n 1, 1) := by decide +kernel
theorem dX8_hole_66 : decode cX8_hole 66 = .ok (.iload_n 2, 1) := by decide +kernel
theorem dX8_hole_67 : decode cX8_hole 67 = .ok (.iastore, 1) := by decide +kernel
theorem dX8_hole_68 : decode cX8_hole 68 = .ok (.iload_n 3, 1) := by decide +kernel
theorem dX8_hole_69 : decode cX8_hole 69 = .ok (.ireturn, 1) := by decide +kernel
set_option maxRecDepth 20000 in
theorem ggX8_holes_X8_isWall : GoodIn wsX8_holes wsX8_isWall := goodIn_r _ [6, 1, 7, 8, 5, 9, 33, 34, 35, 36, 37, 38, 39, 40, 41, 42, 43, 44, 45, 46, 47, 48, 49, 50, 51, 52, 53, 54, 55, 56, 57, 58, 59, 60, 61, 62, 63, 64, 65] (by decide +kernel) (by decide +kernel)
set_option maxRecDepth 20000 in
theorem gX8_holes_X8_isWall : GoodIn wsX8_holes (wsV RX8 175 RX8 yX8_isWall wsX8_isWall) := goodIn_app (goodIn_of _ (by decide +kernel)) ggX8_holes_X8_isWall
set_option maxRecDepth 20000 in
theorem ggX8_holes_X8_hole : GoodIn wsX8_holes wsX8_hole := goodIn_r _ [13, 14, 15, 16, 17, 5, 18, 1, 19, 20, 21, 22, 23, 24, 25, 26, 27, 28, 29, 30, 31, 32, 33, 34, 35, 36, 37, 38, 39, 40, 41, 42, 43, 44, 45, 46, 47, 48, 49, 50, 51, 52, 53, 54, 55, 56, 57, 58, 59, 60, 61, 62, 63, 64, 65] (by decide +kernel) (by decide +kernel)
set_option maxRecDepth 20000 in
theorem gX8_holes_X8_hole : GoodIn wsX8_holes (wsV RX8 216 RX8 yX8_hole wsX8_hole) := goodIn_app (goodIn_of _ (by decide +kernel)) ggX8_holes_X8_hole
set_option maxRecDepth 20000 in
theorem ggX8_holes_X8_isSo : GoodIn wsX8_holes wsX8_isSo := goodIn_r _ [18, 1, 19, 20, 21, 22, 23, 24, 25, 26, 27, 5, 28, 29, 30, 31, 14, 32, 33, 34, 35, 36, 37, 38, 39, 40, 41, 42, 43, 44, 45, 46, 47, 48, 49, 50, 51, 52, 53, 54, 55, 56, 57, 58, 59, 60, 61, 62, 63, 64, 65] (by decide +kernel) (by decide +kernel)
set_option maxRecDepth 20000 in
theorem gX8_holes_X8_isSo : GoodIn wsX8_holes (wsV RX8 213 RX8 yX8_isSo wsX8_isSo) := goodIn_app (goodIn_of _ (by decide +kernel)) ggX8_holes_X8_isSo
theorem dX8_holes_0 : decode cX8_holes 0 = .ok (.iload_n 1, 1) := by decide +kernel
theorem dX8_holes_1 : decode cX8_holes 1 = .ok (.iconst (-1), 1) := by decide +kernel
theorem dX8_holes_2 : decode cX8_holes 2 = .ok (.if_icmp .eq 13, 3) := by decide +kernel
theorem dX8_holes_5 : decode cX8_holes 5 = .ok (.aload_n 0, 1) := by decide +kernel
theorem dX8_holes_6 : decode cX8_holes 6 = .ok (.iload_n 1, 1) := by decide +kernel
theorem dX8_holes_7 : decode cX8_holes 7 = .ok (.invokevirtual 175, 3) := by decide +kernel
theorem dX8_holes_10 : decode cX8_holes 10 = .ok (.ifCond .ne 5, 3) := by decide +kernel
theorem dX8_holes_13 : decode cX8_holes 13 = .ok (.iconst (-1), 1) := by decide +kernel
theorem dX8_holes_14 : decode cX8_holes 14 = .ok (.ireturn, 1) := by decide +kernel
theorem dX8_holes_15 : decode cX8_holes 15 = .ok (.iload_n 1, 1) := by decide +kernel
theorem dX8_holes_16 : decode cX8_holes 16 = .ok (.ifCond .lt 9, 3) := by decide +kernel
theorem dX8_holes_19 : decode cX8_holes 19 = .ok (.aload_n 0, 1) := by decide +kernel
theorem dX8_holes_20 : decode cX8_holes 20 = .ok (.iload_n 1, 1) := by decide +kernel
theorem dX8_holes_21 : decode cX8_holes 21 = .ok (.invokevirtual 216, 3) := by decide +kernel
theorem dX8_holes_24 : decode cX8_holes 24 = .ok (.ireturn, 1) := by decide +kernel
theorem dX8_holes_25 : decode cX8_holes 25 = .ok (.aload_n 0, 1) := by decide +kernel
theorem dX8_holes_26 : decode cX8_holes 26 = .ok (.invokevirtual 213, 3) := by decide +kernel
theorem dX8_holes_29 : decode cX8_holes 29 = .ok (.ifCond .eq 8, 3) := by decide +kernel
theorem dX8_holes_32 : decode cX8_holes 32 = .ok (.bipush 64, 2) := by decide +kernel
theorem dX8_holes_34 : decode cX8_holes 34 = .ok (.goto 4, 3) := by decide +kernel
theorem dX8_holes_37 : decode cX8_holes 37 = .ok (.iconst 0, 1) := by decide +kernel
theorem dX8_holes_38 : decode cX8_holes 38 = .ok (.istore_n 2, 1) := by decide +kernel
theorem dX8_holes_39 : decode cX8_holes 39 = .ok (.iconst 0, 1) := by decide +kernel
theorem dX8_holes_40 : decode cX8_holes 40 = .ok (.istore_n 3, 1) := by decide +kernel
theorem dX8_holes_41 : decode cX8_holes 41 = .ok (.iload_n 3, 1) := by decide +kernel
theorem dX8_holes_42 : decode cX8_holes 42 = .ok (.aload_n 0, 1) := by decide +kernel
theorem dX8_holes_43 : decode cX8_holes 43 = .ok (.getfield 154, 3) := by decide +kernel
theorem dX8_holes_46 : decode cX8_holes 46 = .ok (.if_icmp .ge 29, 3) := by decide +kernel
theorem dX8_holes_49 : decode cX8_holes 49 = .ok (.iload_n 2, 1) := by decide +kernel
theorem dX8_holes_50 : decode cX8_holes 50 = .ok (.aload_n 0, 1) := by decide +kernel
theorem dX8_holes_51 : decode cX8_holes 51 = .ok (.iload_n 3, 1) := by decide +kernel
theorem dX8_holes_52 : decode cX8_holes 52 = .ok (.invokevirtual 216, 3) := by decide +kernel
theorem dX8_holes_55 : decode cX8_holes 55 = .ok (.bipush (-9), 2) := by decide +kernel
theorem dX8_holes_57 : decode cX8_holes 57 = .ok (.if_icmp .ne 7, 3) := by decide +kernel
theorem dX8_holes_60 : decode cX8_holes 60 = .ok (.iconst 0, 1) := by decide +kernel
theorem dX8_holes_61 : decode cX8_holes 61 = .ok (.goto 6, 3) := by decide +kernel
theorem dX8_holes_64 : decode cX8_holes 64 = .ok (.iconst 1, 1) := by decide +kernel
theorem dX8_holes_65 : decode cX8_holes 65 = .ok (.iload_n 3, 1) := by decide +kernel
theorem dX8_holes_66 : decode cX8_holes 66 = .ok (.ishl, 1) := by decide +kernel
theorem dX8_holes_67 : decode cX8_holes 67 = .ok (.ior, 1) := by decide +kernel
theorem dX8_holes_68 : decode cX8_holes 68 = .ok (.istore_n 2, 1) := by decide +kernel
theorem dX8_holes_69 : decode cX8_holes 69 = .ok (.iinc 3 1, 3) := by decide +kernel
theorem dX8_holes_72 : decode cX8_holes 72 = .ok (.goto (-31), 3) := by decide +kernel
theorem dX8_holes_75 : decode cX8_holes 75 = .ok (.iload_n 2, 1) := by decide +kernel
theorem dX8_holes_76 : decode cX8_holes 76 = .ok (.ireturn, 1) := by decide +kernel
set_option maxRecDepth 20000 in
theorem ggX8_mark_X8_in : GoodIn wsX8_mark wsX8_in := goodIn_r _ [16] (by decide +kernel) (by decide +kernel)
set_option maxRecDepth 20000 in
theorem gX8_mark_X8_in : GoodIn wsX8_mark (va_wsS RX8 67 yX8_in wsX8_in) := goodIn_app (goodIn_of _ (by decide +kernel)) ggX8_mark_X8_in
set_option maxRecDepth 20000 in
theorem ggX8_mark_X8_isWall : GoodIn wsX8_mark wsX8_isWall := goodIn_r _ [20, 21, 13, 14, 15, 16, 26, 27, 28, 29, 30, 31, 32, 33, 34, 35, 36, 37, 38, 39, 40, 41, 42, 43, 44, 45, 46, 47, 48, 49, 50, 51, 52, 53, 54, 55, 56, 57, 58] (by decide +kernel) (by decide +kernel)
set_option maxRecDepth 20000 in
theorem gX8_mark_X8_isWall : GoodIn wsX8_mark (wsV RX8 175 RX8 yX8_isWall wsX8_isWall) := goodIn_app (goodIn_of _ (by decide +kernel)) ggX8_mark_X8_isWall
set_option maxRecDepth 20000 in
theorem ggX8_mark_X8_seen : GoodIn wsX8_mark wsX8_seen := goodIn_r _ [25] (by decide +kernel) (by decide +kernel)
set_option maxRecDepth 20000 in
theorem gX8_mark_X8_seen : GoodIn wsX8_mark (wsV RX8 131 RX8 yX8_seen wsX8_seen) := goodIn_app (goodIn_of _ (by decide +kernel)) ggX8_mark_X8_seen
theorem dX8_mark_0 : decode cX8_mark 0 = .ok (.iload_n 1, 1) := by decide +kernel
theorem dX8_mark_1 : decode cX8_mark 1 = .ok (.i2l, 1) := by decide +kernel
theorem dX8_mark_2 : decode cX8_mark 2 = .ok (.lconst 0, 1) := by decide +kernel
theorem dX8_mark_3 : decode cX8_mark 3 = .ok (.ldc2_w 219, 3) := by decide +kernel
theorem dX8_mark_6 : decode cX8_mark 6 = .ok (.invokestatic 67, 3) := by decide +kernel
theorem dX8_mark_9 : decode cX8_mark 9 = .ok (.ifCond .eq 11, 3) := by decide +kernel
theorem dX8_mark_12 : decode cX8_mark 12 = .ok (.aload_n 0, 1) := by decide +kernel
theorem dX8_mark_13 : decode cX8_mark 13 = .ok (.iload_n 2, 1) := by decide +kernel
theorem dX8_mark_14 : decode cX8_mark 14 = .ok (.invokevirtual 175, 3) := by decide +kernel
theorem dX8_mark_17 : decode cX8_mark 17 = .ok (.ifCond .ne 6, 3) := by decide +kernel
theorem dX8_mark_20 : decode cX8_mark 20 = .ok (.ldc 207, 2) := by decide +kernel
theorem dX8_mark_22 : decode cX8_mark 22 = .ok (.ireturn, 1) := by decide +kernel
theorem dX8_mark_23 : decode cX8_mark 23 = .ok (.aload_n 0, 1) := by decide +kernel
theorem dX8_mark_24 : decode cX8_mark 24 = .ok (.dup, 1) := by decide +kernel
theorem dX8_mark_25 : decode cX8_mark 25 = .ok (.getfield 221, 3) := by decide +kernel
theorem dX8_mark_28 : decode cX8_mark 28 = .ok (.iload_n 1, 1) := by decide +kernel
theorem dX8_mark_29 : decode cX8_mark 29 = .ok (.ifCond .ne 7, 3) := by decide +kernel
theorem dX8_mark_32 : decode cX8_mark 32 = .ok (.lconst 1, 1) := by decide +kernel
theorem dX8_mark_33 : decode cX8_mark 33 = .ok (.goto 50, 3) := by decide +kernel
theorem dX8_mark_36 : decode cX8_mark 36 = .ok (.iload_n 1, 1) := by decide +kernel
theorem dX8_mark_37 : decode cX8_mark 37 = .ok (.iconst 1, 1) := by decide +kernel
theorem dX8_mark_38 : decode cX8_mark 38 = .ok (.if_icmp .ne 9, 3) := by decide +kernel
theorem dX8_mark_41 : decode cX8_mark 41 = .ok (.ldc2_w 225, 3) := by decide +kernel
theorem dX8_mark_44 : decode cX8_mark 44 = .ok (.goto 39, 3) := by decide +kernel
theorem dX8_mark_47 : decode cX8_mark 47 = .ok (.iload_n 1, 1) := by decide +kernel
theorem dX8_mark_48 : decode cX8_mark 48 = .ok (.iconst 2, 1) := by decide +kernel
theorem dX8_mark_49 : decode cX8_mark 49 = .ok (.if_icmp .ne 9, 3) := by decide +kernel
theorem dX8_mark_52 : decode cX8_mark 52 = .ok (.ldc2_w 227, 3) := by decide +kernel
theorem dX8_mark_55 : decode cX8_mark 55 = .ok (.goto 28, 3) := by decide +kernel
theorem dX8_mark_58 : decode cX8_mark 58 = .ok (.iload_n 1, 1) := by decide +kernel
theorem dX8_mark_59 : decode cX8_mark 59 = .ok (.iconst 3, 1) := by decide +kernel
theorem dX8_mark_60 : decode cX8_mark 60 = .ok (.if_icmp .ne 9, 3) := by decide +kernel
theorem dX8_mark_63 : decode cX8_mark 63 = .ok (.ldc2_w 229, 3) := by decide +kernel
theorem dX8_mark_66 : decode cX8_mark 66 = .ok (.goto 17, 3) := by decide +kernel
theorem dX8_mark_69 : decode cX8_mark 69 = .ok (.iload_n 1, 1) := by decide +kernel
theorem dX8_mark_70 : decode cX8_mark 70 = .ok (.iconst 4, 1) := by decide +kernel
theorem dX8_mark_71 : decode cX8_mark 71 = .ok (.if_icmp .ne 9, 3) := by decide +kernel
theorem dX8_mark_74 : decode cX8_mark 74 = .ok (.ldc2_w 231, 3) := by decide +kernel
theorem dX8_mark_77 : decode cX8_mark 77 = .ok (.goto 6, 3) := by decide +kernel
theorem dX8_mark_80 : decode cX8_mark 80 = .ok (.ldc2_w 233, 3) := by decide +kernel
theorem dX8_mark_83 : decode cX8_mark 83 = .ok (.ladd, 1) := by decide +kernel
theorem dX8_mark_84 : decode cX8_mark 84 = .ok (.putfield 221, 3) := by decide +kernel
theorem dX8_mark_87 : decode cX8_mark 87 = .ok (.bipush 10, 2) := by decide +kernel
theorem dX8_mark_89 : decode cX8_mark 89 = .ok (.aload_n 0, 1) := by decide +kernel
theorem dX8_mark_90 : decode cX8_mark 90 = .ok (.aload_n 0, 1) := by decide +kernel
theorem dX8_mark_91 : decode cX8_mark 91 = .ok (.getfield 31, 3) := by decide +kernel
theorem dX8_mark_94 : decode cX8_mark 94 = .ok (.iload_n 2, 1) := by decide +kernel
theorem dX8_mark_95 : decode cX8_mark 95 = .ok (.invokevirtual 131, 3) := by decide +kernel
theorem dX8_mark_98 : decode cX8_mark 98 = .ok (.isub, 1) := by decide +kernel
theorem dX8_mark_99 : decode cX8_mark 99 = .ok (.istore_n 3, 1) := by decide +kernel
theorem dX8_mark_100 : decode cX8_mark 100 = .ok (.iload_n 1, 1) := by decide +kernel
theorem dX8_mark_101 : decode cX8_mark 101 = .ok (.tableswitch 92 0 4 #[35, 42, 56, 65, 81], 35) := by decide +kernel
theorem dX8_mark_136 : decode cX8_mark 136 = .ok (.aload_n 0, 1) := by decide +kernel
theorem dX8_mark_137 : decode cX8_mark 137 = .ok (.getfield 34, 3) := by decide +kernel
theorem dX8_mark_140 : decode cX8_mark 140 = .ok (.iload_n 2, 1) := by decide +kernel
theorem dX8_mark_141 : decode cX8_mark 141 = .ok (.iaload, 1) := by decide +kernel
theorem dX8_mark_142 : decode cX8_mark 142 = .ok (.ireturn, 1) := by decide +kernel
theorem dX8_mark_143 : decode cX8_mark 143 = .ok (.aload_n 0, 1) := by decide +kernel
theorem dX8_mark_144 : decode cX8_mark 144 = .ok (.getfield 34, 3) := by decide +kernel
theorem dX8_mark_147 : decode cX8_mark 147 = .ok (.iload_n 2, 1) := by decide +kernel
theorem dX8_mark_148 : decode cX8_mark 148 = .ok (.iaload, 1) := by decide +kernel
theorem dX8_mark_149 : decode cX8_mark 149 = .ok (.aload_n 0, 1) := by decide +kernel
theorem dX8_mark_150 : decode cX8_mark 150 = .ok (.getfield 22, 3) := by decide +kernel
theorem dX8_mark_153 : decode cX8_mark 153 = .ok (.iload_n 2, 1) := by decide +kernel
theorem dX8_mark_154 : decode cX8_mark 154 = .ok (.iaload, 1) := by decide +kernel
theorem dX8_mark_155 : decode cX8_mark 155 = .ok (.iadd, 1) := by decide +kernel
theorem dX8_mark_156 : decode cX8_mark 156 = .ok (.ireturn, 1) := by decide +kernel
theorem dX8_mark_157 : decode cX8_mark 157 = .ok (.aload_n 0, 1) := by decide +kernel
theorem dX8_mark_158 : decode cX8_mark 158 = .ok (.getfield 34, 3) := by decide +kernel
theorem dX8_mark_161 : decode cX8_mark 161 = .ok (.iload_n 2, 1) := by decide +kernel
theorem dX8_mark_162 : decode cX8_mark 162 = .ok (.iaload, 1) := by decide +kernel
theorem dX8_mark_163 : decode cX8_mark 163 = .ok (.iload_n 3, 1) := by decide +kernel
theorem dX8_mark_164 : decode cX8_mark 164 = .ok (.isub, 1) := by decide +kernel
theorem dX8_mark_165 : decode cX8_mark 165 = .ok (.ireturn, 1) := by decide +kernel
theorem dX8_mark_166 : decode cX8_mark 166 = .ok (.iconst 2, 1) := by decide +kernel
theorem dX8_mark_167 : decode cX8_mark 167 = .ok (.aload_n 0, 1) := by decide +kernel
theorem dX8_mark_168 : decode cX8_mark 168 = .ok (.getfield 34, 3) := by decide +kernel
theorem dX8_mark_171 : decode cX8_mark 171 = .ok (.iload_n 2, 1) := by decide +kernel
theorem dX8_mark_172 : decode cX8_mark 172 = .ok (.iaload, 1) := by decide +kernel
theorem dX8_mark_173 : decode cX8_mark 173 = .ok (.aload_n 0, 1) := by decide +kernel
theorem dX8_mark_174 : decode cX8_mark 174 = .ok (.getfield 22, 3) := by decide +kernel
theorem dX8_mark_177 : decode cX8_mark 177 = .ok (.iload_n 2, 1) := by decide +kernel
theorem dX8_mark_178 : decode cX8_mark 178 = .ok (.iaload, 1) := by decide +kernel
theorem dX8_mark_179 : decode cX8_mark 179 = .ok (.iadd, 1) := by decide +kernel
theorem dX8_mark_180 : decode cX8_mark 180 = .ok (.imul, 1) := by decide +kernel
theorem dX8_mark_181 : decode cX8_mark 181 = .ok (.ireturn, 1) := by decide +kernel
theorem dX8_mark_182 : decode cX8_mark 182 = .ok (.aload_n 0, 1) := by decide +kernel
theorem dX8_mark_183 : decode cX8_mark 183 = .ok (.getfield 34, 3) := by decide +kernel
theorem dX8_mark_186 : decode cX8_mark 186 = .ok (.iload_n 2, 1) := by decide +kernel
theorem dX8_mark_187 : decode cX8_mark 187 = .ok (.iaload, 1) := by decide +kernel
theorem dX8_mark_188 : decode cX8_mark 188 = .ok (.iload_n 3, 1) := by decide +kernel
theorem dX8_mark_189 : decode cX8_mark 189 = .ok (.isub, 1) := by decide +kernel
theorem dX8_mark_190 : decode cX8_mark 190 = .ok (.iload_n 2, 1) := by decide +kernel
theorem dX8_mark_191 : decode cX8_mark 191 = .ok (.iadd, 1) := by decide +kernel
theorem dX8_mark_192 : decode cX8_mark 192 = .ok (.ireturn, 1) := by decide +kernel
theorem dX8_mark_193 : decode cX8_mark 193 = .ok (.aload_n 0, 1) := by decide +kernel
theorem dX8_mark_194 : decode cX8_mark 194 = .ok (.getfield 34, 3) := by decide +kernel
theorem dX8_mark_197 : decode cX8_mark 197 = .ok (.iload_n 2, 1) := by decide +kernel
theorem dX8_mark_198 : decode cX8_mark 198 = .ok (.iaload, 1) := by decide +kernel
theorem dX8_mark_199 : decode cX8_mark 199 = .ok (.aload_n 0, 1) := by decide +kernel
theorem dX8_mark_200 : decode cX8_mark 200 = .ok (.getfield 157, 3) := by decide +kernel
theorem dX8_mark_203 : decode cX8_mark 203 = .ok (.iadd, 1) := by decide +kernel
theorem dX8_mark_204 : decode cX8_mark 204 = .ok (.ireturn, 1) := by decide +kernel
theorem dX8_trace_0 : decode cX8_trace 0 = .ok (.aload_n 0, 1) := by decide +kernel
theorem dX8_trace_1 : decode cX8_trace 1 = .ok (.getfield 221, 3) := by decide +kernel
theorem dX8_trace_4 : decode cX8_trace 4 = .ok (.lreturn, 1) := by decide +kernel
set_option maxRecDepth 20000 in
theorem ggX8_keep_X8_in : GoodIn wsX8_keep wsX8_in := goodIn_r _ [12] (by decide +kernel) (by decide +kernel)
set_option maxRecDepth 20000 in
theorem gX8_keep_X8_in : GoodIn wsX8_keep (va_wsS RX8 67 yX8_in wsX8_in) := goodIn_app (goodIn_of _ (by decide +kernel)) ggX8_keep_X8_in
theorem dX8_keep_0 : decode cX8_keep 0 = .ok (.iload_n 1, 1) := by decide +kernel
theorem dX8_keep_1 : decode cX8_keep 1 = .ok (.i2l, 1) := by decide +kernel
theorem dX8_keep_2 : decode cX8_keep 2 = .ok (.lconst 0, 1) := by decide +kernel
theorem dX8_keep_3 : decode cX8_keep 3 = .ok (.lconst 1, 1) := by decide +kernel
theorem dX8_keep_4 : decode cX8_keep 4 = .ok (.invokestatic 67, 3) := by decide +kernel
theorem dX8_keep_7 : decode cX8_keep 7 = .ok (.ifCond .ne 5, 3) := by decide +kernel
theorem dX8_keep_10 : decode cX8_keep 10 = .ok (.iconst (-1), 1) := by decide +kernel
theorem dX8_keep_11 : decode cX8_keep 11 = .ok (.ireturn, 1) := by decide +kernel
theorem dX8_keep_12 : decode cX8_keep 12 = .ok (.bipush 21, 2) := by decide +kernel
theorem dX8_keep_14 : decode cX8_keep 14 = .ok (.iload_n 1, 1) := by decide +kernel
theorem dX8_keep_15 : decode cX8_keep 15 = .ok (.imul, 1) := by decide +kernel
theorem dX8_keep_16 : decode cX8_keep 16 = .ok (.istore_n 2, 1) := by decide +kernel
theorem dX8_keep_17 : decode cX8_keep 17 = .ok (.aload_n 0, 1) := by decide +kernel
theorem dX8_keep_18 : decode cX8_keep 18 = .ok (.getfield 58, 3) := by decide +kernel
theorem dX8_keep_21 : decode cX8_keep 21 = .ok (.iload_n 2, 1) := by decide +kernel
theorem dX8_keep_22 : decode cX8_keep 22 = .ok (.aload_n 0, 1) := by decide +kernel
theorem dX8_keep_23 : decode cX8_keep 23 = .ok (.getfield 157, 3) := by decide +kernel
theorem dX8_keep_26 : decode cX8_keep 26 = .ok (.iastore, 1) := by decide +kernel
theorem dX8_keep_27 : decode cX8_keep 27 = .ok (.aload_n 0, 1) := by decide +kernel
theorem dX8_keep_28 : decode cX8_keep 28 = .ok (.getfield 58, 3) := by decide +kernel
theorem dX8_keep_31 : decode cX8_keep 31 = .ok (.iload_n 2, 1) := by decide +kernel
theorem dX8_keep_32 : decode cX8_keep 32 = .ok (.iconst 1, 1) := by decide +kernel
theorem dX8_keep_33 : decode cX8_keep 33 = .ok (.iadd, 1) := by decide +kernel
theorem dX8_keep_34 : decode cX8_keep 34 = .ok (.aload_n 0, 1) := by decide +kernel
theorem dX8_keep_35 : decode cX8_keep 35 = .ok (.getfield 160, 3) := by decide +kernel
theorem dX8_keep_38 : decode cX8_keep 38 = .ok (.iastore, 1) := by decide +kernel
theorem dX8_keep_39 : decode cX8_keep 39 = .ok (.aload_n 0, 1) := by decide +kernel
theorem dX8_keep_40 : decode cX8_keep 40 = .ok (.getfield 58, 3) := by decide +kernel
theorem dX8_keep_43 : decode cX8_keep 43 = .ok (.iload_n 2, 1) := by decide +kernel
theorem dX8_keep_44 : decode cX8_keep 44 = .ok (.iconst 2, 1) := by decide +kernel
theorem dX8_keep_45 : decode cX8_keep 45 = .ok (.iadd, 1) := by decide +kernel
theorem dX8_keep_46 : decode cX8_keep 46 = .ok (.aload_n 0, 1) := by decide +kernel
theorem dX8_keep_47 : decode cX8_keep 47 = .ok (.getfield 163, 3) := by decide +kernel
theorem dX8_keep_50 : decode cX8_keep 50 = .ok (.iastore, 1) := by decide +kernel
theorem dX8_keep_51 : decode cX8_keep 51 = .ok (.aload_n 0, 1) := by decide +kernel
theorem dX8_keep_52 : decode cX8_keep 52 = .ok (.getfield 58, 3) := by decide +kernel
theorem dX8_keep_55 : decode cX8_keep 55 = .ok (.iload_n 2, 1) := by decide +kernel
theorem dX8_keep_56 : decode cX8_keep 56 = .ok (.iconst 3, 1) := by decide +kernel
theorem dX8_keep_57 : decode cX8_keep 57 = .ok (.iadd, 1) := by decide +kernel
theorem dX8_keep_58 : decode cX8_keep 58 = .ok (.aload_n 0, 1) := by decide +kernel
theorem dX8_keep_59 : decode cX8_keep 59 = .ok (.getfield 166, 3) := by decide +kernel
theorem dX8_keep_62 : decode cX8_keep 62 = .ok (.iastore, 1) := by decide +kernel
theorem dX8_keep_63 : decode cX8_keep 63 = .ok (.aload_n 0, 1) := by decide +kernel
theorem dX8_keep_64 : decode cX8_keep 64 = .ok (.getfield 58, 3) := by decide +kernel
theorem dX8_keep_67 : decode cX8_keep 67 = .ok (.iload_n 2, 1) := by decide +kernel
theorem dX8_keep_68 : decode cX8_keep 68 = .ok (.iconst 4, 1) := by decide +kernel
theorem dX8_keep_69 : decode cX8_keep 69 = .ok (.iadd, 1) := by decide +kernel
theorem dX8_keep_70 : decode cX8_keep 70 = .ok (.aload_n 0, 1) := by decide +kernel
theorem dX8_keep_71 : decode cX8_keep 71 = .ok (.getfield 169, 3) := by decide +kernel
theorem dX8_keep_74 : decode cX8_keep 74 = .ok (.iastore, 1) := by decide +kernel
theorem dX8_keep_75 : decode cX8_keep 75 = .ok (.iconst 0, 1) := by decide +kernel
theorem dX8_keep_76 : decode cX8_keep 76 = .ok (.istore_n 3, 1) := by decide +kernel
theorem dX8_keep_77 : decode cX8_keep 77 = .ok (.iload_n 3, 1) := by decide +kernel
theorem dX8_keep_78 : decode cX8_keep 78 = .ok (.bipush 6, 2) := by decide +kernel
theorem dX8_keep_80 : decode cX8_keep 80 = .ok (.if_icmp .ge 25, 3) := by decide +kernel
theorem dX8_keep_83 : decode cX8_keep 83 = .ok (.aload_n 0, 1) := by decide +kernel
theorem dX8_keep_84 : decode cX8_keep 84 = .ok (.getfield 58, 3) := by decide +kernel
theorem dX8_keep_87 : decode cX8_keep 87 = .ok (.iload_n 2, 1) := by decide +kernel
theorem dX8_keep_88 : decode cX8_keep 88 = .ok (.iconst 5, 1) := by decide +kernel
theorem dX8_keep_89 : decode cX8_keep 89 = .ok (.iadd, 1) := by decide +kernel
theorem dX8_keep_90 : decode cX8_keep 90 = .ok (.iload_n 3, 1) := by decide +kernel
theorem dX8_keep_91 : decode cX8_keep 91 = .ok (.iadd, 1) := by decide +kernel
theorem dX8_keep_92 : decode cX8_keep 92 = .ok (.aload_n 0, 1) := by decide +kernel
theorem dX8_keep_93 : decode cX8_keep 93 = .ok (.getfield 34, 3) := by decide +kernel
theorem dX8_keep_96 : decode cX8_keep 96 = .ok (.iload_n 3, 1) := by decide +kernel
theorem dX8_keep_97 : decode cX8_keep 97 = .ok (.iaload, 1) := by decide +kernel
theorem dX8_keep_98 : decode cX8_keep 98 = .ok (.iastore, 1) := by decide +kernel
theorem dX8_keep_99 : decode cX8_keep 99 = .ok (.iinc 3 1, 3) := by decide +kernel
theorem dX8_keep_102 : decode cX8_keep 102 = .ok (.goto (-25), 3) := by decide +kernel
theorem dX8_keep_105 : decode cX8_keep 105 = .ok (.iconst 0, 1) := by decide +kernel
theorem dX8_keep_106 : decode cX8_keep 106 = .ok (.istore_n 3, 1) := by decide +kernel
theorem dX8_keep_107 : decode cX8_keep 107 = .ok (.iload_n 3, 1) := by decide +kernel
theorem dX8_keep_108 : decode cX8_keep 108 = .ok (.bipush 10, 2) := by decide +kernel
theorem dX8_keep_110 : decode cX8_keep 110 = .ok (.if_icmp .ge 26, 3) := by decide +kernel
theorem dX8_keep_113 : decode cX8_keep 113 = .ok (.aload_n 0, 1) := by decide +kernel
theorem dX8_keep_114 : decode cX8_keep 114 = .ok (.getfield 58, 3) := by decide +kernel
theorem dX8_keep_117 : decode cX8_keep 117 = .ok (.iload_n 2, 1) := by decide +kernel
theorem dX8_keep_118 : decode cX8_keep 118 = .ok (.bipush 11, 2) := by decide +kernel
theorem dX8_keep_120 : decode cX8_keep 120 = .ok (.iadd, 1) := by decide +kernel
theorem dX8_keep_121 : decode cX8_keep 121 = .ok (.iload_n 3, 1) := by decide +kernel
theorem dX8_keep_122 : decode cX8_keep 122 = .ok (.iadd, 1) := by decide +kernel
theorem dX8_keep_123 : decode cX8_keep 123 = .ok (.aload_n 0, 1) := by decide +kernel
theorem dX8_keep_124 : decode cX8_keep 124 = .ok (.getfield 40, 3) := by decide +kernel
theorem dX8_keep_127 : decode cX8_keep 127 = .ok (.iload_n 3, 1) := by decide +kernel
theorem dX8_keep_128 : decode cX8_keep 128 = .ok (.iaload, 1) := by decide +kernel
theorem dX8_keep_129 : decode cX8_keep 129 = .ok (.iastore, 1) := by decide +kernel
theorem dX8_keep_130 : decode cX8_keep 130 = .ok (.iinc 3 1, 3) := by decide +kernel
theorem dX8_keep_133 : decode cX8_keep 133 = .ok (.goto (-26), 3) := by decide +kernel
theorem dX8_keep_136 : decode cX8_keep 136 = .ok (.aload_n 0, 1) := by decide +kernel
theorem dX8_keep_137 : decode cX8_keep 137 = .ok (.getfield 157, 3) := by decide +kernel
theorem dX8_keep_140 : decode cX8_keep 140 = .ok (.ireturn, 1) := by decide +kernel
set_option maxRecDepth 20000 in
theorem ggX8_back_X8_in : GoodIn wsX8_back wsX8_in := goodIn_r _ [12] (by decide +kernel) (by decide +kernel)
set_option maxRecDepth 20000 in
theorem gX8_back_X8_in : GoodIn wsX8_back (va_wsS RX8 67 yX8_in wsX8_in) := goodIn_app (goodIn_of _ (by decide +kernel)) ggX8_back_X8_in
theorem dX8_back_0 : decode cX8_back 0 = .ok (.iload_n 1, 1) := by decide +kernel
theorem dX8_back_1 : decode cX8_back 1 = .ok (.i2l, 1) := by decide +kernel
theorem dX8_back_2 : decode cX8_back 2 = .ok (.lconst 0, 1) := by decide +kernel
theorem dX8_back_3 : decode cX8_back 3 = .ok (.lconst 1, 1) := by decide +kernel
theorem dX8_back_4 : decode cX8_back 4 = .ok (.invokestatic 67, 3) := by decide +kernel
theorem dX8_back_7 : decode cX8_back 7 = .ok (.ifCond .ne 5, 3) := by decide +kernel
theorem dX8_back_10 : decode cX8_back 10 = .ok (.iconst (-1), 1) := by decide +kernel
theorem dX8_back_11 : decode cX8_back 11 = .ok (.ireturn, 1) := by decide +kernel
theorem dX8_back_12 : decode cX8_back 12 = .ok (.bipush 21, 2) := by decide +kernel
theorem dX8_back_14 : decode cX8_back 14 = .ok (.iload_n 1, 1) := by decide +kernel
theorem dX8_back_15 : decode cX8_back 15 = .ok (.imul, 1) := by decide +kernel
theorem dX8_back_16 : decode cX8_back 16 = .ok (.istore_n 2, 1) := by decide +kernel
theorem dX8_back_17 : decode cX8_back 17 = .ok (.aload_n 0, 1) := by decide +kernel
theorem dX8_back_18 : decode cX8_back 18 = .ok (.getfield 58, 3) := by decide +kernel
theorem dX8_back_21 : decode cX8_back 21 = .ok (.iload_n 2, 1) := by decide +kernel
theorem dX8_back_22 : decode cX8_back 22 = .ok (.iaload, 1) := by decide +kernel
theorem dX8_back_23 : decode cX8_back 23 = .ok (.ifCond .ge 6, 3) := by decide +kernel
theorem dX8_back_26 : decode cX8_back 26 = .ok (.bipush (-2), 2) := by decide +kernel
theorem dX8_back_28 : decode cX8_back 28 = .ok (.ireturn, 1) := by decide +kernel
theorem dX8_back_29 : decode cX8_back 29 = .ok (.aload_n 0, 1) := by decide +kernel
theorem dX8_back_30 : decode cX8_back 30 = .ok (.aload_n 0, 1) := by decide +kernel
theorem dX8_back_31 : decode cX8_back 31 = .ok (.getfield 58, 3) := by decide +kernel
theorem dX8_back_34 : decode cX8_back 34 = .ok (.iload_n 2, 1) := by decide +kernel
theorem dX8_back_35 : decode cX8_back 35 = .ok (.iaload, 1) := by decide +kernel
theorem dX8_back_36 : decode cX8_back 36 = .ok (.putfield 157, 3) := by decide +kernel
theorem dX8_back_39 : decode cX8_back 39 = .ok (.aload_n 0, 1) := by decide +kernel
theorem dX8_back_40 : decode cX8_back 40 = .ok (.aload_n 0, 1) := by decide +kernel
theorem dX8_back_41 : decode cX8_back 41 = .ok (.getfield 58, 3) := by decide +kernel
theorem dX8_back_44 : decode cX8_back 44 = .ok (.iload_n 2, 1) := by decide +kernel
theorem dX8_back_45 : decode cX8_back 45 = .ok (.iconst 1, 1) := by decide +kernel
theorem dX8_back_46 : decode cX8_back 46 = .ok (.iadd, 1) := by decide +kernel
theorem dX8_back_47 : decode cX8_back 47 = .ok (.iaload, 1) := by decide +kernel
theorem dX8_back_48 : decode cX8_back 48 = .ok (.putfield 160, 3) := by decide +kernel
theorem dX8_back_51 : decode cX8_back 51 = .ok (.aload_n 0, 1) := by decide +kernel
theorem dX8_back_52 : decode cX8_back 52 = .ok (.aload_n 0, 1) := by decide +kernel
theorem dX8_back_53 : decode cX8_back 53 = .ok (.getfield 58, 3) := by decide +kernel
theorem dX8_back_56 : decode cX8_back 56 = .ok (.iload_n 2, 1) := by decide +kernel
theorem dX8_back_57 : decode cX8_back 57 = .ok (.iconst 2, 1) := by decide +kernel
theorem dX8_back_58 : decode cX8_back 58 = .ok (.iadd, 1) := by decide +kernel
theorem dX8_back_59 : decode cX8_back 59 = .ok (.iaload, 1) := by decide +kernel
theorem dX8_back_60 : decode cX8_back 60 = .ok (.putfield 163, 3) := by decide +kernel
theorem dX8_back_63 : decode cX8_back 63 = .ok (.aload_n 0, 1) := by decide +kernel
theorem dX8_back_64 : decode cX8_back 64 = .ok (.aload_n 0, 1) := by decide +kernel
theorem dX8_back_65 : decode cX8_back 65 = .ok (.getfield 58, 3) := by decide +kernel
theorem dX8_back_68 : decode cX8_back 68 = .ok (.iload_n 2, 1) := by decide +kernel
theorem dX8_back_69 : decode cX8_back 69 = .ok (.iconst 3, 1) := by decide +kernel
theorem dX8_back_70 : decode cX8_back 70 = .ok (.iadd, 1) := by decide +kernel
theorem dX8_back_71 : decode cX8_back 71 = .ok (.iaload, 1) := by decide +kernel
theorem dX8_back_72 : decode cX8_back 72 = .ok (.putfield 166, 3) := by decide +kernel
theorem dX8_back_75 : decode cX8_back 75 = .ok (.aload_n 0, 1) := by decide +kernel
theorem dX8_back_76 : decode cX8_back 76 = .ok (.aload_n 0, 1) := by decide +kernel
theorem dX8_back_77 : decode cX8_back 77 = .ok (.getfield 58, 3) := by decide +kernel
theorem dX8_back_80 : decode cX8_back 80 = .ok (.iload_n 2, 1) := by decide +kernel
theorem dX8_back_81 : decode cX8_back 81 = .ok (.iconst 4, 1) := by decide +kernel
theorem dX8_back_82 : decode cX8_back 82 = .ok (.iadd, 1) := by decide +kernel
theorem dX8_back_83 : decode cX8_back 83 = .ok (.iaload, 1) := by decide +kernel
theorem dX8_back_84 : decode cX8_back 84 = .ok (.putfield 169, 3) := by decide +kernel
theorem dX8_back_87 : decode cX8_back 87 = .ok (.iconst 0, 1) := by decide +kernel
theorem dX8_back_88 : decode cX8_back 88 = .ok (.istore_n 3, 1) := by decide +kernel
theorem dX8_back_89 : decode cX8_back 89 = .ok (.iload_n 3, 1) := by decide +kernel
theorem dX8_back_90 : decode cX8_back 90 = .ok (.bipush 6, 2) := by decide +kernel
theorem dX8_back_92 : decode cX8_back 92 = .ok (.if_icmp .ge 25, 3) := by decide +kernel
theorem dX8_back_95 : decode cX8_back 95 = .ok (.aload_n 0, 1) := by decide +kernel
theorem dX8_back_96 : decode cX8_back 96 = .ok (.getfield 34, 3) := by decide +kernel
theorem dX8_back_99 : decode cX8_back 99 = .ok (.iload_n 3, 1) := by decide +kernel
theorem dX8_back_100 : decode cX8_back 100 = .ok (.aload_n 0, 1) := by decide +kernel
theorem dX8_back_101 : decode cX8_back 101 = .ok (.getfield 58, 3) := by decide +kernel
theorem dX8_back_104 : decode cX8_back 104 = .ok (.iload_n 2, 1) := by decide +kernel
theorem dX8_back_105 : decode cX8_back 105 = .ok (.iconst 5, 1) := by decide +kernel
theorem dX8_back_106 : decode cX8_back 106 = .ok (.iadd, 1) := by decide +kernel
theorem dX8_back_107 : decode cX8_back 107 = .ok (.iload_n 3, 1) := by decide +kernel
theorem dX8_back_108 : decode cX8_back 108 = .ok (.iadd, 1) := by decide +kernel
theorem dX8_back_109 : decode cX8_back 109 = .ok (.iaload, 1) := by decide +kernel
theorem dX8_back_110 : decode cX8_back 110 = .ok (.iastore, 1) := by decide +kernel
theorem dX8_back_111 : decode cX8_back 111 = .ok (.iinc 3 1, 3) := by decide +kernel
theorem dX8_back_114 : decode cX8_back 114 = .ok (.goto (-25), 3) := by decide +kernel
theorem dX8_back_117 : decode cX8_back 117 = .ok (.iconst 0, 1) := by decide +kernel
theorem dX8_back_118 : decode cX8_back 118 = .ok (.istore_n 3, 1) := by decide +kernel
theorem dX8_back_119 : decode cX8_back 119 = .ok (.iload_n 3, 1) := by decide +kernel
theorem dX8_back_120 : decode cX8_back 120 = .ok (.bipush 10, 2) := by decide +kernel
theorem dX8_back_122 : decode cX8_back 122 = .ok (.if_icmp .ge 26, 3) := by decide +kernel
theorem dX8_back_125 : decode cX8_back 125 = .ok (.aload_n 0, 1) := by decide +kernel
theorem dX8_back_126 : decode cX8_back 126 = .ok (.getfield 40, 3) := by decide +kernel
theorem dX8_back_129 : decode cX8_back 129 = .ok (.iload_n 3, 1) := by decide +kernel
theorem dX8_back_130 : decode cX8_back 130 = .ok (.aload_n 0, 1) := by decide +kernel
theorem dX8_back_131 : decode cX8_back 131 = .ok (.getfield 58, 3) := by decide +kernel
theorem dX8_back_134 : decode cX8_back 134 = .ok (.iload_n 2, 1) := by decide +kernel
theorem dX8_back_135 : decode cX8_back 135 = .ok (.bipush 11, 2) := by decide +kernel
theorem dX8_back_137 : decode cX8_back 137 = .ok (.iadd, 1) := by decide +kernel
theorem dX8_back_138 : decode cX8_back 138 = .ok (.iload_n 3, 1) := by decide +kernel
theorem dX8_back_139 : decode cX8_back 139 = .ok (.iadd, 1) := by decide +kernel
theorem dX8_back_140 : decode cX8_back 140 = .ok (.iaload, 1) := by decide +kernel
theorem dX8_back_141 : decode cX8_back 141 = .ok (.iastore, 1) := by decide +kernel
theorem dX8_back_142 : decode cX8_back 142 = .ok (.iinc 3 1, 3) := by decide +kernel
theorem dX8_back_145 : decode cX8_back 145 = .ok (.goto (-26), 3) := by decide +kernel
theorem dX8_back_148 : decode cX8_back 148 = .ok (.aload_n 0, 1) := by decide +kernel
theorem dX8_back_149 : decode cX8_back 149 = .ok (.getfield 157, 3) := by decide +kernel
theorem dX8_back_152 : decode cX8_back 152 = .ok (.ireturn, 1) := by decide +kernel
set_option maxRecDepth 20000 in
theorem ggX8_count_X8_many : GoodIn wsX8_count wsX8_many := goodIn_r _ [11] (by decide +kernel) (by decide +kernel)
set_option maxRecDepth 20000 in
theorem gX8_count_X8_many : GoodIn wsX8_count (va_wsS RX8 186 yX8_many wsX8_many) := goodIn_app (goodIn_of _ (by decide +kernel)) ggX8_count_X8_many
theorem dX8_count_0 : decode cX8_count 0 = .ok (.iload_n 1, 1) := by decide +kernel
theorem dX8_count_1 : decode cX8_count 1 = .ok (.tableswitch 84 0 6 #[43, 48, 53, 61, 69, 74, 79], 43) := by decide +kernel
theorem dX8_count_44 : decode cX8_count 44 = .ok (.aload_n 0, 1) := by decide +kernel
theorem dX8_count_45 : decode cX8_count 45 = .ok (.getfield 154, 3) := by decide +kernel
theorem dX8_count_48 : decode cX8_count 48 = .ok (.ireturn, 1) := by decide +kernel
theorem dX8_count_49 : decode cX8_count 49 = .ok (.aload_n 0, 1) := by decide +kernel
theorem dX8_count_50 : decode cX8_count 50 = .ok (.getfield 61, 3) := by decide +kernel
theorem dX8_count_53 : decode cX8_count 53 = .ok (.ireturn, 1) := by decide +kernel
theorem dX8_count_54 : decode cX8_count 54 = .ok (.aload_n 0, 1) := by decide +kernel
theorem dX8_count_55 : decode cX8_count 55 = .ok (.getfield 160, 3) := by decide +kernel
theorem dX8_count_58 : decode cX8_count 58 = .ok (.invokestatic 186, 3) := by decide +kernel
theorem dX8_count_61 : decode cX8_count 61 = .ok (.ireturn, 1) := by decide +kernel
theorem dX8_count_62 : decode cX8_count 62 = .ok (.aload_n 0, 1) := by decide +kernel
theorem dX8_count_63 : decode cX8_count 63 = .ok (.getfield 163, 3) := by decide +kernel
theorem dX8_count_66 : decode cX8_count 66 = .ok (.invokestatic 186, 3) := by decide +kernel
theorem dX8_count_69 : decode cX8_count 69 = .ok (.ireturn, 1) := by decide +kernel
theorem dX8_count_70 : decode cX8_count 70 = .ok (.aload_n 0, 1) := by decide +kernel
theorem dX8_count_71 : decode cX8_count 71 = .ok (.getfield 172, 3) := by decide +kernel
theorem dX8_count_74 : decode cX8_count 74 = .ok (.ireturn, 1) := by decide +kernel
theorem dX8_count_75 : decode cX8_count 75 = .ok (.aload_n 0, 1) := by decide +kernel
theorem dX8_count_76 : decode cX8_count 76 = .ok (.getfield 169, 3) := by decide +kernel
theorem dX8_count_79 : decode cX8_count 79 = .ok (.ireturn, 1) := by decide +kernel
theorem dX8_count_80 : decode cX8_count 80 = .ok (.aload_n 0, 1) := by decide +kernel
theorem dX8_count_81 : decode cX8_count 81 = .ok (.getfield 71, 3) := by decide +kernel
theorem dX8_count_84 : decode cX8_count 84 = .ok (.ireturn, 1) := by decide +kernel
theorem dX8_count_85 : decode cX8_count 85 = .ok (.iconst (-1), 1) := by decide +kernel
theorem dX8_count_86 : decode cX8_count 86 = .ok (.ireturn, 1) := by decide +kernel
end
section
theorem dJ6_bitCount_0f7a4_0 : decode cJ6_bitCount_0f7a4 0 = .ok (.iload_n 0, 1) := by decide +kernel
theorem dJ6_bitCount_0f7a4_1 : decode cJ6_bitCount_0f7a4 1 = .ok (.iload_n 0, 1) := by decide +kernel
theorem dJ6_bitCount_0f7a4_2 : decode cJ6_bitCount_0f7a4 2 = .ok (.iconst 1, 1) := by decide +kernel
theorem dJ6_bitCount_0f7a4_3 : decode cJ6_bitCount_0f7a4 3 = .ok (.iushr, 1) := by decide +kernel
theorem dJ6_bitCount_0f7a4_4 : decode cJ6_bitCount_0f7a4 4 = .ok (.ldc_w 265, 3) := by decide +kernel
theorem dJ6_bitCount_0f7a4_7 : decode cJ6_bitCount_0f7a4 7 = .ok (.iand, 1) := by decide +kernel
theorem dJ6_bitCount_0f7a4_8 : decode cJ6_bitCount_0f7a4 8 = .ok (.isub, 1) := by decide +kernel
theorem dJ6_bitCount_0f7a4_9 : decode cJ6_bitCount_0f7a4 9 = .ok (.istore_n 0, 1) := by decide +kernel
theorem dJ6_bitCount_0f7a4_10 : decode cJ6_bitCount_0f7a4 10 = .ok (.iload_n 0, 1) := by decide +kernel
theorem dJ6_bitCount_0f7a4_11 : decode cJ6_bitCount_0f7a4 11 = .ok (.ldc_w 266, 3) := by decide +kernel
theorem dJ6_bitCount_0f7a4_14 : decode cJ6_bitCount_0f7a4 14 = .ok (.iand, 1) := by decide +kernel
theorem dJ6_bitCount_0f7a4_15 : decode cJ6_bitCount_0f7a4 15 = .ok (.iload_n 0, 1) := by decide +kernel
theorem dJ6_bitCount_0f7a4_16 : decode cJ6_bitCount_0f7a4 16 = .ok (.iconst 2, 1) := by decide +kernel
theorem dJ6_bitCount_0f7a4_17 : decode cJ6_bitCount_0f7a4 17 = .ok (.iushr, 1) := by decide +kernel
theorem dJ6_bitCount_0f7a4_18 : decode cJ6_bitCount_0f7a4 18 = .ok (.ldc_w 266, 3) := by decide +kernel
theorem dJ6_bitCount_0f7a4_21 : decode cJ6_bitCount_0f7a4 21 = .ok (.iand, 1) := by decide +kernel
theorem dJ6_bitCount_0f7a4_22 : decode cJ6_bitCount_0f7a4 22 = .ok (.iadd, 1) := by decide +kernel
theorem dJ6_bitCount_0f7a4_23 : decode cJ6_bitCount_0f7a4 23 = .ok (.istore_n 0, 1) := by decide +kernel
theorem dJ6_bitCount_0f7a4_24 : decode cJ6_bitCount_0f7a4 24 = .ok (.iload_n 0, 1) := by decide +kernel
theorem dJ6_bitCount_0f7a4_25 : decode cJ6_bitCount_0f7a4 25 = .ok (.iload_n 0, 1) := by decide +kernel
theorem dJ6_bitCount_0f7a4_26 : decode cJ6_bitCount_0f7a4 26 = .ok (.iconst 4, 1) := by decide +kernel
theorem dJ6_bitCount_0f7a4_27 : decode cJ6_bitCount_0f7a4 27 = .ok (.iushr, 1) := by decide +kernel
theorem dJ6_bitCount_0f7a4_28 : decode cJ6_bitCount_0f7a4 28 = .ok (.iadd, 1) := by decide +kernel
theorem dJ6_bitCount_0f7a4_29 : decode cJ6_bitCount_0f7a4 29 = .ok (.ldc_w 267, 3) := by decide +kernel
theorem dJ6_bitCount_0f7a4_32 : decode cJ6_bitCount_0f7a4 32 = .ok (.iand, 1) := by decide +kernel
theorem dJ6_bitCount_0f7a4_33 : decode cJ6_bitCount_0f7a4 33 = .ok (.istore_n 0, 1) := by decide +kernel
theorem dJ6_bitCount_0f7a4_34 : decode cJ6_bitCount_0f7a4 34 = .ok (.iload_n 0, 1) := by decide +kernel
theorem dJ6_bitCount_0f7a4_35 : decode cJ6_bitCount_0f7a4 35 = .ok (.iload_n 0, 1) := by decide +kernel
theorem dJ6_bitCount_0f7a4_36 : decode cJ6_bitCount_0f7a4 36 = .ok (.bipush 8, 2) := by decide +kernel
theorem dJ6_bitCount_0f7a4_38 : decode cJ6_bitCount_0f7a4 38 = .ok (.iushr, 1) := by decide +kernel
theorem dJ6_bitCount_0f7a4_39 : decode cJ6_bitCount_0f7a4 39 = .ok (.iadd, 1) := by decide +kernel
theorem dJ6_bitCount_0f7a4_40 : decode cJ6_bitCount_0f7a4 40 = .ok (.istore_n 0, 1) := by decide +kernel
theorem dJ6_bitCount_0f7a4_41 : decode cJ6_bitCount_0f7a4 41 = .ok (.iload_n 0, 1) := by decide +kernel
theorem dJ6_bitCount_0f7a4_42 : decode cJ6_bitCount_0f7a4 42 = .ok (.iload_n 0, 1) := by decide +kernel
theorem dJ6_bitCount_0f7a4_43 : decode cJ6_bitCount_0f7a4 43 = .ok (.bipush 16, 2) := by decide +kernel
theorem dJ6_bitCount_0f7a4_45 : decode cJ6_bitCount_0f7a4 45 = .ok (.iushr, 1) := by decide +kernel
theorem dJ6_bitCount_0f7a4_46 : decode cJ6_bitCount_0f7a4 46 = .ok (.iadd, 1) := by decide +kernel
theorem dJ6_bitCount_0f7a4_47 : decode cJ6_bitCount_0f7a4 47 = .ok (.istore_n 0, 1) := by decide +kernel
theorem dJ6_bitCount_0f7a4_48 : decode cJ6_bitCount_0f7a4 48 = .ok (.iload_n 0, 1) := by decide +kernel
theorem dJ6_bitCount_0f7a4_49 : decode cJ6_bitCount_0f7a4 49 = .ok (.bipush 63, 2) := by decide +kernel
theorem dJ6_bitCount_0f7a4_51 : decode cJ6_bitCount_0f7a4 51 = .ok (.iand, 1) := by decide +kernel
theorem dJ6_bitCount_0f7a4_52 : decode cJ6_bitCount_0f7a4 52 = .ok (.ireturn, 1) := by decide +kernel
theorem dJ9_max_7cf53_0 : decode cJ9_max_7cf53 0 = .ok (.iload_n 0, 1) := by decide +kernel
theorem dJ9_max_7cf53_1 : decode cJ9_max_7cf53 1 = .ok (.iload_n 1, 1) := by decide +kernel
theorem dJ9_max_7cf53_2 : decode cJ9_max_7cf53 2 = .ok (.if_icmp .lt 7, 3) := by decide +kernel
theorem dJ9_max_7cf53_5 : decode cJ9_max_7cf53 5 = .ok (.iload_n 0, 1) := by decide +kernel
theorem dJ9_max_7cf53_6 : decode cJ9_max_7cf53 6 = .ok (.goto 4, 3) := by decide +kernel
theorem dJ9_max_7cf53_9 : decode cJ9_max_7cf53 9 = .ok (.iload_n 1, 1) := by decide +kernel
theorem dJ9_max_7cf53_10 : decode cJ9_max_7cf53 10 = .ok (.ireturn, 1) := by decide +kernel
set_option maxRecDepth 20000 in
theorem ggJ0_length_8abf5_J0_coder_7d493 : GoodIn wsJ0_length_8abf5 wsJ0_coder_7d493 := goodIn_r _ [6, 7, 8] (by decide +kernel) (by decide +kernel)
set_option maxRecDepth 20000 in
theorem gJ0_length_8abf5_J0_coder_7d493 : GoodIn wsJ0_length_8abf5 (wsV RJ0 335 RJ0 yJ0_coder_7d493 wsJ0_coder_7d493) := goodIn_app (goodIn_of _ (by decide +kernel)) ggJ0_length_8abf5_J0_coder_7d493
theorem dJ0_length_8abf5_0 : decode cJ0_length_8abf5 0 = .ok (.aload_n 0, 1) := by decide +kernel
theorem dJ0_length_8abf5_1 : decode cJ0_length_8abf5 1 = .ok (.getfield 9, 3) := by decide +kernel
theorem dJ0_length_8abf5_4 : decode cJ0_length_8abf5 4 = .ok (.arraylength, 1) := by decide +kernel
theorem dJ0_length_8abf5_5 : decode cJ0_length_8abf5 5 = .ok (.aload_n 0, 1) := by decide +kernel
theorem dJ0_length_8abf5_6 : decode cJ0_length_8abf5 6 = .ok (.invokevirtual 335, 3) := by decide +kernel
theorem dJ0_length_8abf5_9 : decode cJ0_length_8abf5 9 = .ok (.ishr, 1) := by decide +kernel
theorem dJ0_length_8abf5_10 : decode cJ0_length_8abf5 10 = .ok (.ireturn, 1) := by decide +kernel
set_option maxRecDepth 20000 in
theorem ggJ0_charAt_5068e_J0_isLatin1_aae02 : GoodIn wsJ0_charAt_5068e wsJ0_isLatin1_aae02 := goodIn_r _ [6, 7, 8] (by decide +kernel) (by decide +kernel)
set_option maxRecDepth 20000 in
theorem gJ0_charAt_5068e_J0_isLatin1_aae02 : GoodIn wsJ0_charAt_5068e (wsV RJ0 492 RJ0 yJ0_isLatin1_aae02 wsJ0_isLatin1_aae02) := goodIn_app (goodIn_of _ (by decide +kernel)) ggJ0_charAt_5068e_J0_isLatin1_aae02
set_option maxRecDepth 20000 in
theorem ggJ0_charAt_5068e_J1_charAt_3b067 : GoodIn wsJ0_charAt_5068e wsJ1_charAt_3b067 := goodIn_r _ [12, 13, 14, 5, 15, 16, 17, 18, 19, 20] (by decide +kernel) (by decide +kernel)
set_option maxRecDepth 20000 in
theorem gJ0_charAt_5068e_J1_charAt_3b067 : GoodIn wsJ0_charAt_5068e (va_wsS RJ0 495 yJ1_charAt_3b067 wsJ1_charAt_3b067) := goodIn_app (goodIn_of _ (by decide +kernel)) ggJ0_charAt_5068e_J1_charAt_3b067
set_option maxRecDepth 20000 in
theorem ggJ0_charAt_5068e_J2_charAt_3b067 : GoodIn wsJ0_charAt_5068e wsJ2_charAt_3b067 := goodIn_r _ [24, 25, 26, 23, 27, 28, 29, 30, 31, 14, 5, 15, 16, 17, 18, 19, 20, 32, 33, 34, 35, 36, 37] (by decide +kernel) (by decide +kernel)
set_option maxRecDepth 20000 in
theorem gJ0_charAt_5068e_J2_charAt_3b067 : GoodIn wsJ0_charAt_5068e (va_wsS RJ0 498 yJ2_charAt_3b067 wsJ2_charAt_3b067) := goodIn_app (goodIn_of _ (by decide +kernel)) ggJ0_charAt_5068e_J2_charAt_3b067
theorem dJ0_charAt_5068e_0 : decode cJ0_charAt_5068e 0 = .ok (.aload_n 0, 1) := by decide +kernel
theorem dJ0_charAt_5068e_1 : decode cJ0_charAt_5068e 1 = .ok (.invokevirtual 492, 3) := by decide +kernel
theorem dJ0_charAt_5068e_4 : decode cJ0_charAt_5068e 4 = .ok (.ifCond .eq 12, 3) := by decide +kernel
theorem dJ0_charAt_5068e_7 : decode cJ0_charAt_5068e 7 = .ok (.aload_n 0, 1) := by decide +kernel
theorem dJ0_charAt_5068e_8 : decode cJ0_charAt_5068e 8 = .ok (.getfield 9, 3) := by decide +kernel
theorem dJ0_charAt_5068e_11 : decode cJ0_charAt_5068e 11 = .ok (.iload_n 1, 1) := by decide +kernel
theorem dJ0_charAt_5068e_12 : decode cJ0_charAt_5068e 12 = .ok (.invokestatic 495, 3) := by decide +kernel
theorem dJ0_charAt_5068e_15 : decode cJ0_charAt_5068e 15 = .ok (.ireturn, 1) := by decide +kernel
theorem dJ0_charAt_5068e_16 : decode cJ0_charAt_5068e 16 = .ok (.aload_n 0, 1) := by decide +kernel
theorem dJ0_charAt_5068e_17 : decode cJ0_charAt_5068e 17 = .ok (.getfield 9, 3) := by decide +kernel
theorem dJ0_charAt_5068e_20 : decode cJ0_charAt_5068e 20 = .ok (.iload_n 1, 1) := by decide +kernel
theorem dJ0_charAt_5068e_21 : decode cJ0_charAt_5068e 21 = .ok (.invokestatic 498, 3) := by decide +kernel
theorem dJ0_charAt_5068e_24 : decode cJ0_charAt_5068e 24 = .ok (.ireturn, 1) := by decide +kernel
theorem dJ0_coder_7d493_0 : decode cJ0_coder_7d493 0 = .ok (.getstatic 38, 3) := by decide +kernel
theorem dJ0_coder_7d493_3 : decode cJ0_coder_7d493 3 = .ok (.ifCond .eq 10, 3) := by decide +kernel
theorem dJ0_coder_7d493_6 : decode cJ0_coder_7d493 6 = .ok (.aload_n 0, 1) := by decide +kernel
theorem dJ0_coder_7d493_7 : decode cJ0_coder_7d493 7 = .ok (.getfield 15, 3) := by decide +kernel
theorem dJ0_coder_7d493_10 : decode cJ0_coder_7d493 10 = .ok (.goto 4, 3) := by decide +kernel
theorem dJ0_coder_7d493_13 : decode cJ0_coder_7d493 13 = .ok (.iconst 1, 1) := by decide +kernel
theorem dJ0_coder_7d493_14 : decode cJ0_coder_7d493 14 = .ok (.ireturn, 1) := by decide +kernel
theorem dJ0_isLatin1_aae02_0 : decode cJ0_isLatin1_aae02 0 = .ok (.getstatic 38, 3) := by decide +kernel
theorem dJ0_isLatin1_aae02_3 : decode cJ0_isLatin1_aae02 3 = .ok (.ifCond .eq 14, 3) := by decide +kernel
theorem dJ0_isLatin1_aae02_6 : decode cJ0_isLatin1_aae02 6 = .ok (.aload_n 0, 1) := by decide +kernel
theorem dJ0_isLatin1_aae02_7 : decode cJ0_isLatin1_aae02 7 = .ok (.getfield 15, 3) := by decide +kernel
theorem dJ0_isLatin1_aae02_10 : decode cJ0_isLatin1_aae02 10 = .ok (.ifCond .ne 7, 3) := by decide +kernel
theorem dJ0_isLatin1_aae02_13 : decode cJ0_isLatin1_aae02 13 = .ok (.iconst 1, 1) := by decide +kernel
theorem dJ0_isLatin1_aae02_14 : decode cJ0_isLatin1_aae02 14 = .ok (.goto 4, 3) := by decide +kernel
theorem dJ0_isLatin1_aae02_17 : decode cJ0_isLatin1_aae02 17 = .ok (.iconst 0, 1) := by decide +kernel
theorem dJ0_isLatin1_aae02_18 : decode cJ0_isLatin1_aae02 18 = .ok (.ireturn, 1) := by decide +kernel
set_option maxRecDepth 20000 in
theorem ggJ0_checkIndex_df160_J3_checkIndex_8e157 : GoodIn wsJ0_checkIndex_df160 wsJ3_checkIndex_8e157 := goodIn_r _ [5] (by decide +kernel) (by decide +kernel)
set_option maxRecDepth 20000 in
theorem gJ0_checkIndex_df160_J3_checkIndex_8e157 : GoodIn wsJ0_checkIndex_df160 (va_wsS RJ0 1059 yJ3_checkIndex_8e157 wsJ3_checkIndex_8e157) := goodIn_app (goodIn_of _ (by decide +kernel)) ggJ0_checkIndex_df160_J3_checkIndex_8e157
theorem dJ0_checkIndex_df160_0 : decode cJ0_checkIndex_df160 0 = .ok (.iload_n 0, 1) := by decide +kernel
theorem dJ0_checkIndex_df160_1 : decode cJ0_checkIndex_df160 1 = .ok (.iload_n 1, 1) := by decide +kernel
theorem dJ0_checkIndex_df160_2 : decode cJ0_checkIndex_df160 2 = .ok (.getstatic 1053, 3) := by decide +kernel
theorem dJ0_checkIndex_df160_5 : decode cJ0_checkIndex_df160 5 = .ok (.invokestatic 1059, 3) := by decide +kernel
theorem dJ0_checkIndex_df160_8 : decode cJ0_checkIndex_df160 8 = .ok (.pop, 1) := by decide +kernel
theorem dJ0_checkIndex_df160_9 : decode cJ0_checkIndex_df160 9 = .ok (.return_, 1) := by decide +kernel
set_option maxRecDepth 20000 in
theorem ggJ1_charAt_3b067_J0_checkIndex_df160 : GoodIn wsJ1_charAt_3b067 wsJ0_checkIndex_df160 := goodIn_r _ [4, 5, 6, 7, 8, 9] (by decide +kernel) (by decide +kernel)
set_option maxRecDepth 20000 in
theorem gJ1_charAt_3b067_J0_checkIndex_df160 : GoodIn wsJ1_charAt_3b067 (va_wsS RJ1 9 yJ0_checkIndex_df160 wsJ0_checkIndex_df160) := goodIn_app (goodIn_of _ (by decide +kernel)) ggJ1_charAt_3b067_J0_checkIndex_df160
theorem dJ1_charAt_3b067_0 : decode cJ1_charAt_3b067 0 = .ok (.iload_n 1, 1) := by decide +kernel
theorem dJ1_charAt_3b067_1 : decode cJ1_charAt_3b067 1 = .ok (.aload_n 0, 1) := by decide +kernel
theorem dJ1_charAt_3b067_2 : decode cJ1_charAt_3b067 2 = .ok (.arraylength, 1) := by decide +kernel
theorem dJ1_charAt_3b067_3 : decode cJ1_charAt_3b067 3 = .ok (.invokestatic 9, 3) := by decide +kernel
theorem dJ1_charAt_3b067_6 : decode cJ1_charAt_3b067 6 = .ok (.aload_n 0, 1) := by decide +kernel
theorem dJ1_charAt_3b067_7 : decode cJ1_charAt_3b067 7 = .ok (.iload_n 1, 1) := by decide +kernel
theorem dJ1_charAt_3b067_8 : decode cJ1_charAt_3b067 8 = .ok (.baload, 1) := by decide +kernel
theorem dJ1_charAt_3b067_9 : decode cJ1_charAt_3b067 9 = .ok (.sipush 255, 3) := by decide +kernel
theorem dJ1_charAt_3b067_12 : decode cJ1_charAt_3b067 12 = .ok (.iand, 1) := by decide +kernel
theorem dJ1_charAt_3b067_13 : decode cJ1_charAt_3b067 13 = .ok (.i2c, 1) := by decide +kernel
theorem dJ1_charAt_3b067_14 : decode cJ1_charAt_3b067 14 = .ok (.ireturn, 1) := by decide +kernel
set_option maxRecDepth 20000 in
theorem ggJ2_getChar_3b067_J2_length_9d52b : GoodIn wsJ2_getChar_3b067 wsJ2_length_9d52b := goodIn_r _ [7] (by decide +kernel) (by decide +kernel)
set_option maxRecDepth 20000 in
theorem gJ2_getChar_3b067_J2_length_9d52b : GoodIn wsJ2_getChar_3b067 (va_wsS RJ2 48 yJ2_length_9d52b wsJ2_length_9d52b) := goodIn_app (goodIn_of _ (by decide +kernel)) ggJ2_getChar_3b067_J2_length_9d52b
theorem dJ2_getChar_3b067_0 : decode cJ2_getChar_3b067 0 = .ok (.getstatic 44, 3) := by decide +kernel
theorem dJ2_getChar_3b067_3 : decode cJ2_getChar_3b067 3 = .ok (.ifCond .ne 25, 3) := by decide +kernel
theorem dJ2_getChar_3b067_6 : decode cJ2_getChar_3b067 6 = .ok (.iload_n 1, 1) := by decide +kernel
theorem dJ2_getChar_3b067_7 : decode cJ2_getChar_3b067 7 = .ok (.ifCond .lt 11, 3) := by decide +kernel
theorem dJ2_getChar_3b067_10 : decode cJ2_getChar_3b067 10 = .ok (.iload_n 1, 1) := by decide +kernel
theorem dJ2_getChar_3b067_11 : decode cJ2_getChar_3b067 11 = .ok (.aload_n 0, 1) := by decide +kernel
theorem dJ2_getChar_3b067_12 : decode cJ2_getChar_3b067 12 = .ok (.invokestatic 48, 3) := by decide +kernel
theorem dJ2_getChar_3b067_15 : decode cJ2_getChar_3b067 15 = .ok (.if_icmp .lt 13, 3) := by decide +kernel
theorem dJ2_getChar_3b067_18 : decode cJ2_getChar_3b067 18 = .ok (.new 52, 3) := by decide +kernel
theorem dJ2_getChar_3b067_21 : decode cJ2_getChar_3b067 21 = .ok (.dup, 1) := by decide +kernel
theorem dJ2_getChar_3b067_22 : decode cJ2_getChar_3b067 22 = .ok (.ldc 54, 2) := by decide +kernel
theorem dJ2_getChar_3b067_24 : decode cJ2_getChar_3b067 24 = .ok (.invokespecial 56, 3) := by decide +kernel
theorem dJ2_getChar_3b067_27 : decode cJ2_getChar_3b067 27 = .ok (.athrow, 1) := by decide +kernel
theorem dJ2_getChar_3b067_28 : decode cJ2_getChar_3b067 28 = .ok (.iload_n 1, 1) := by decide +kernel
theorem dJ2_getChar_3b067_29 : decode cJ2_getChar_3b067 29 = .ok (.iconst 1, 1) := by decide +kernel
theorem dJ2_getChar_3b067_30 : decode cJ2_getChar_3b067 30 = .ok (.ishl, 1) := by decide +kernel
theorem dJ2_getChar_3b067_31 : decode cJ2_getChar_3b067 31 = .ok (.istore_n 1, 1) := by decide +kernel
theorem dJ2_getChar_3b067_32 : decode cJ2_getChar_3b067 32 = .ok (.aload_n 0, 1) := by decide +kernel
theorem dJ2_getChar_3b067_33 : decode cJ2_getChar_3b067 33 = .ok (.iload_n 1, 1) := by decide +kernel
theorem dJ2_getChar_3b067_34 : decode cJ2_getChar_3b067 34 = .ok (.iinc 1 1, 3) := by decide +kernel
theorem dJ2_getChar_3b067_37 : decode cJ2_getChar_3b067 37 = .ok (.baload, 1) := by decide +kernel
theorem dJ2_getChar_3b067_38 : decode cJ2_getChar_3b067 38 = .ok (.sipush 255, 3) := by decide +kernel
theorem dJ2_getChar_3b067_41 : decode cJ2_getChar_3b067 41 = .ok (.iand, 1) := by decide +kernel
theorem dJ2_getChar_3b067_42 : decode cJ2_getChar_3b067 42 = .ok (.getstatic 59, 3) := by decide +kernel
theorem dJ2_getChar_3b067_45 : decode cJ2_getChar_3b067 45 = .ok (.ishl, 1) := by decide +kernel
theorem dJ2_getChar_3b067_46 : decode cJ2_getChar_3b067 46 = .ok (.aload_n 0, 1) := by decide +kernel
theorem dJ2_getChar_3b067_47 : decode cJ2_getChar_3b067 47 = .ok (.iload_n 1, 1) := by decide +kernel
theorem dJ2_getChar_3b067_48 : decode cJ2_getChar_3b067 48 = .ok (.baload, 1) := by decide +kernel
theorem dJ2_getChar_3b067_49 : decode cJ2_getChar_3b067 49 = .ok (.sipush 255, 3) := by decide +kernel
theorem dJ2_getChar_3b067_52 : decode cJ2_getChar_3b067 52 = .ok (.iand, 1) := by decide +kernel
theorem dJ2_getChar_3b067_53 : decode cJ2_getChar_3b067 53 = .ok (.getstatic 63, 3) := by decide +kernel
theorem dJ2_getChar_3b067_56 : decode cJ2_getChar_3b067 56 = .ok (.ishl, 1) := by decide +kernel
theorem dJ2_getChar_3b067_57 : decode cJ2_getChar_3b067 57 = .ok (.ior, 1) := by decide +kernel
theorem dJ2_getChar_3b067_58 : decode cJ2_getChar_3b067 58 = .ok (.i2c, 1) := by decide +kernel
theorem dJ2_getChar_3b067_59 : decode cJ2_getChar_3b067 59 = .ok (.ireturn, 1) := by decide +kernel
theorem dJ2_length_9d52b_0 : decode cJ2_length_9d52b 0 = .ok (.aload_n 0, 1) := by decide +kernel
theorem dJ2_length_9d52b_1 : decode cJ2_length_9d52b 1 = .ok (.arraylength, 1) := by decide +kernel
theorem dJ2_length_9d52b_2 : decode cJ2_length_9d52b 2 = .ok (.iconst 1, 1) := by decide +kernel
theorem dJ2_length_9d52b_3 : decode cJ2_length_9d52b 3 = .ok (.ishr, 1) := by decide +kernel
theorem dJ2_length_9d52b_4 : decode cJ2_length_9d52b 4 = .ok (.ireturn, 1) := by decide +kernel
set_option maxRecDepth 20000 in
theorem ggJ2_charAt_3b067_J2_checkIndex_2214a : GoodIn wsJ2_charAt_3b067 wsJ2_checkIndex_2214a := goodIn_r _ [4, 5, 6, 3, 7, 8, 9, 10, 11, 12, 13, 14, 15, 16] (by decide +kernel) (by decide +kernel)
set_option maxRecDepth 20000 in
theorem gJ2_charAt_3b067_J2_checkIndex_2214a : GoodIn wsJ2_charAt_3b067 (va_wsS RJ2 67 yJ2_checkIndex_2214a wsJ2_checkIndex_2214a) := goodIn_app (goodIn_of _ (by decide +kernel)) ggJ2_charAt_3b067_J2_checkIndex_2214a
set_option maxRecDepth 20000 in
theorem ggJ2_charAt_3b067_J2_getChar_3b067 : GoodIn wsJ2_charAt_3b067 wsJ2_getChar_3b067 := goodIn_r _ [19, 20, 21, 22, 5, 6, 3, 7] (by decide +kernel) (by decide +kernel)
set_option maxRecDepth 20000 in
theorem gJ2_charAt_3b067_J2_getChar_3b067 : GoodIn wsJ2_charAt_3b067 (va_wsS RJ2 71 yJ2_getChar_3b067 wsJ2_getChar_3b067) := goodIn_app (goodIn_of _ (by decide +kernel)) ggJ2_charAt_3b067_J2_getChar_3b067
theorem dJ2_charAt_3b067_0 : decode cJ2_charAt_3b067 0 = .ok (.iload_n 1, 1) := by decide +kernel
theorem dJ2_charAt_3b067_1 : decode cJ2_charAt_3b067 1 = .ok (.aload_n 0, 1) := by decide +kernel
theorem dJ2_charAt_3b067_2 : decode cJ2_charAt_3b067 2 = .ok (.invokestatic 67, 3) := by decide +kernel
theorem dJ2_charAt_3b067_5 : decode cJ2_charAt_3b067 5 = .ok (.aload_n 0, 1) := by decide +kernel
theorem dJ2_charAt_3b067_6 : decode cJ2_charAt_3b067 6 = .ok (.iload_n 1, 1) := by decide +kernel
theorem dJ2_charAt_3b067_7 : decode cJ2_charAt_3b067 7 = .ok (.invokestatic 71, 3) := by decide +kernel
theorem dJ2_charAt_3b067_10 : decode cJ2_charAt_3b067 10 = .ok (.ireturn, 1) := by decide +kernel
set_option maxRecDepth 20000 in
theorem ggJ2_checkIndex_2214a_J2_length_9d52b : GoodIn wsJ2_checkIndex_2214a wsJ2_length_9d52b := goodIn_r _ [4] (by decide +kernel) (by decide +kernel)
set_option maxRecDepth 20000 in
theorem gJ2_checkIndex_2214a_J2_length_9d52b : GoodIn wsJ2_checkIndex_2214a (va_wsS RJ2 48 yJ2_length_9d52b wsJ2_length_9d52b) := goodIn_app (goodIn_of _ (by decide +kernel)) ggJ2_checkIndex_2214a_J2_length_9d52b
set_option maxRecDepth 20000 in
theorem ggJ2_checkIndex_2214a_J0_checkIndex_df160 : GoodIn wsJ2_checkIndex_2214a wsJ0_checkIndex_df160 := goodIn_r _ [8, 9, 10, 11, 12, 13] (by decide +kernel) (by decide +kernel)
set_option maxRecDepth 20000 in
theorem gJ2_checkIndex_2214a_J0_checkIndex_df160 : GoodIn wsJ2_checkIndex_2214a (va_wsS RJ2 414 yJ0_checkIndex_df160 wsJ0_checkIndex_df160) := goodIn_app (goodIn_of _ (by decide +kernel)) ggJ2_checkIndex_2214a_J0_checkIndex_df160
theorem dJ2_checkIndex_2214a_0 : decode cJ2_checkIndex_2214a 0 = .ok (.iload_n 0, 1) := by decide +kernel
theorem dJ2_checkIndex_2214a_1 : decode cJ2_checkIndex_2214a 1 = .ok (.aload_n 1, 1) := by decide +kernel
theorem dJ2_checkIndex_2214a_2 : decode cJ2_checkIndex_2214a 2 = .ok (.invokestatic 48, 3) := by decide +kernel
theorem dJ2_checkIndex_2214a_5 : decode cJ2_checkIndex_2214a 5 = .ok (.invokestatic 414, 3) := by decide +kernel
theorem dJ2_checkIndex_2214a_8 : decode cJ2_checkIndex_2214a 8 = .ok (.return_, 1) := by decide +kernel
theorem dJ3_checkIndex_8e157_0 : decode cJ3_checkIndex_8e157 0 = .ok (.iload_n 0, 1) := by decide +kernel
theorem dJ3_checkIndex_8e157_1 : decode cJ3_checkIndex_8e157 1 = .ok (.ifCond .lt 8, 3) := by decide +kernel
theorem dJ3_checkIndex_8e157_4 : decode cJ3_checkIndex_8e157 4 = .ok (.iload_n 0, 1) := by decide +kernel
theorem dJ3_checkIndex_8e157_5 : decode cJ3_checkIndex_8e157 5 = .ok (.iload_n 1, 1) := by decide +kernel
theorem dJ3_checkIndex_8e157_6 : decode cJ3_checkIndex_8e157 6 = .ok (.if_icmp .lt 10, 3) := by decide +kernel
theorem dJ3_checkIndex_8e157_9 : decode cJ3_checkIndex_8e157 9 = .ok (.aload_n 2, 1) := by decide +kernel
theorem dJ3_checkIndex_8e157_10 : decode cJ3_checkIndex_8e157 10 = .ok (.iload_n 0, 1) := by decide +kernel
theorem dJ3_checkIndex_8e157_11 : decode cJ3_checkIndex_8e157 11 = .ok (.iload_n 1, 1) := by decide +kernel
theorem dJ3_checkIndex_8e157_12 : decode cJ3_checkIndex_8e157 12 = .ok (.invokestatic 95, 3) := by decide +kernel
theorem dJ3_checkIndex_8e157_15 : decode cJ3_checkIndex_8e157 15 = .ok (.athrow, 1) := by decide +kernel
theorem dJ3_checkIndex_8e157_16 : decode cJ3_checkIndex_8e157 16 = .ok (.iload_n 0, 1) := by decide +kernel
theorem dJ3_checkIndex_8e157_17 : decode cJ3_checkIndex_8e157 17 = .ok (.ireturn, 1) := by decide +kernel
set_option maxRecDepth 20000 in
theorem ggL_law_X7_init : GoodIn wsL_law wsX7_init := goodIn_r _ [9, 10, 11, 12, 13, 14, 15, 16, 17, 18, 19, 20, 21, 22, 23, 24, 25, 26, 27, 28, 29, 30, 31, 32, 33, 34, 35, 36, 37, 38, 39, 40, 41, 42, 43, 44, 45, 46, 47, 48, 49, 50, 51, 52, 53, 54, 55, 56, 57, 58, 59, 60, 61, 62, 63, 64, 65, 66, 67, 68, 69, 70, 71, 72, 73, 74, 75, 76, 77, 78, 79, 80, 81, 82, 83, 84, 85, 86, 87, 88, 89, 90, 91, 92, 93, 94, 95, 96, 97, 98, 99, 888, 889, 845, 846, 847, 848, 849, 850, 851, 852, 853, 854, 890, 891, 892, 893, 894, 895, 896, 897, 898, 899, 900, 901, 902, 903, 904, 905, 906, 907, 908, 909, 910, 911, 912, 913, 914, 915, 916, 917, 918, 919, 920, 921, 922, 923] (by decide +kernel) (by decide +kernel)
set_option maxRecDepth 20000 in
theorem gL_law_X7_init : GoodIn wsL_law (wsX7_init) := ggL_law_X7_init
set_option maxRecDepth 20000 in
theorem ggL_law_X8_init : GoodIn wsL_law wsX8_init := goodIn_r _ [102, 103, 11, 12, 54, 104, 105, 106, 107, 108, 109, 110, 111, 112, 113, 114, 115, 116, 117, 118, 119, 120, 121, 855, 856, 857, 858, 859, 860, 861, 862, 863, 864, 865, 866, 867, 868, 869, 870, 871, 872, 873, 874, 875, 876, 877, 878, 879, 880, 881, 882, 883, 884, 885, 886, 887] (by decide +kernel) (by decide +kernel)
set_option maxRecDepth 20000 in
theorem gL_law_X8_init : GoodIn wsL_law (wsX8_init) := ggL_law_X8_init
set_option maxRecDepth 20000 in
theorem ggL_law_X7_type : GoodIn wsL_law wsX7_type := goodIn_r _ [125, 16, 126, 127, 128, 129, 15, 130, 131, 132, 133, 134, 135, 43, 845, 846, 847, 848, 849, 850, 851, 852, 853, 854, 888, 889] (by decide +kernel) (by decide +kernel)
set_option maxRecDepth 20000 in
theorem gL_law_X7_type : GoodIn wsL_law (wsV RL 15 RX7 yX7_type wsX7_type) := goodIn_app (goodIn_of _ (by decide +kernel)) ggL_law_X7_type
set_option maxRecDepth 20000 in
theorem ggL_law_X8_type : GoodIn wsL_law wsX8_type := goodIn_r _ [139, 140, 141, 104, 142, 143, 144, 5, 145, 855, 856, 857, 858, 859, 860, 861, 862, 863, 864, 865, 866, 867, 868, 869, 870, 871, 872, 873, 874, 875, 876, 877, 878, 879, 880, 881, 882, 883, 884, 885, 886, 887] (by decide +kernel) (by decide +kernel)
set_option maxRecDepth 20000 in
theorem gL_law_X8_type : GoodIn wsL_law (wsV RL 19 RX8 yX8_type wsX8_type) := goodIn_app (goodIn_of _ (by decide +kernel)) ggL_law_X8_type
set_option maxRecDepth 20000 in
theorem ggL_law_X7_clear : GoodIn wsL_law wsX7_clear := goodIn_r _ [149, 16, 126, 845, 846, 847, 848, 849, 850, 851, 852, 853, 854, 888, 889] (by decide +kernel) (by decide +kernel)
set_option maxRecDepth 20000 in
theorem gL_law_X7_clear : GoodIn wsL_law (wsV RL 20 RX7 yX7_clear wsX7_clear) := goodIn_app (goodIn_of _ (by decide +kernel)) ggL_law_X7_clear
set_option maxRecDepth 20000 in
theorem ggL_law_X8_clear : GoodIn wsL_law wsX8_clear := goodIn_r _ [153, 141, 855, 856, 857, 858, 859, 860, 861, 862, 863, 864, 865, 866, 867, 868, 869, 870, 871, 872, 873, 874, 875, 876, 877, 878, 879, 880, 881, 882, 883, 884, 885, 886, 887] (by decide +kernel) (by decide +kernel)
set_option maxRecDepth 20000 in
theorem gL_law_X8_clear : GoodIn wsL_law (wsV RL 24 RX8 yX8_clear wsX8_clear) := goodIn_app (goodIn_of _ (by decide +kernel)) ggL_law_X8_clear
set_option maxRecDepth 20000 in
theorem ggL_law_X7_walls : GoodIn wsL_law wsX7_walls := goodIn_r _ [157, 20, 38, 16, 37, 126, 24, 28, 158, 159, 160, 161, 162, 19, 163, 50, 164, 165, 166, 167, 168, 169, 170, 49, 171, 172, 173, 174, 175, 176, 177, 178, 179, 180, 181, 182, 183, 184, 185, 15, 186, 131, 43, 187, 188, 189, 190, 191, 192, 193, 194, 195, 196, 197, 198, 199, 200, 201, 202, 203, 204, 205, 206, 207, 208, 209, 210, 211, 212, 213, 214, 215, 216, 217, 218, 219, 220, 221, 222, 223, 224, 225, 226, 227, 228, 229, 230, 231, 232, 233, 234, 235, 236, 237, 238, 239, 240, 241, 242, 243, 244, 245, 246, 247, 248, 249, 250, 251, 55, 56, 57, 252, 253, 254, 255, 256, 257, 258, 259, 260, 90, 91, 36, 92, 93, 82, 83, 84, 85, 87, 88, 86, 94, 95, 96, 97, 98, 261, 262, 263, 264, 265, 266, 267, 268, 269, 270, 271, 272, 273, 274, 275, 276, 277, 278, 279, 280, 281, 282, 283, 284, 285, 286, 287, 288, 289, 290, 291, 292, 293, 294, 295, 296, 297, 298, 299, 300, 301, 302, 303, 304, 305, 306, 307, 308, 309, 310, 311, 312, 313, 314, 315, 316, 317, 318, 319, 320, 321, 322, 323, 324, 23, 325, 326, 327, 328, 329, 330, 61, 331, 845, 846, 847, 848, 849, 850, 851, 852, 853, 854, 888, 889, 904, 905, 906, 907, 890, 891, 892, 893, 894, 895, 920, 921, 922, 923, 911, 912, 913, 914, 915, 916, 917, 918, 919, 896, 897, 898, 899, 900, 901, 902, 903] (by decide +kernel) (by decide +kernel)
set_option maxRecDepth 20000 in
theorem gL_law_X7_walls : GoodIn wsL_law (wsV RL 25 RX7 yX7_walls wsX7_walls) := goodIn_app (goodIn_of _ (by decide +kernel)) ggL_law_X7_walls
set_option maxRecDepth 20000 in
theorem ggL_law_X8_walls : GoodIn wsL_law wsX8_walls := goodIn_r _ [335, 336, 337, 338, 106, 339, 340, 141, 341, 342, 343, 5, 344, 104, 345, 346, 347, 348, 349, 143, 144, 145, 350, 351, 352, 353, 354, 355, 356, 357, 358, 359, 360, 361, 362, 363, 364, 365, 366, 367, 368, 369, 370, 371, 372, 373, 374, 375, 376, 377, 105, 378, 379, 380, 381, 382, 383, 384, 385, 386, 387, 388, 389, 390, 391, 392, 393, 394, 395, 396, 397, 398, 121, 107, 108, 109, 110, 112, 111, 399, 400, 401, 402, 403, 404, 120, 855, 856, 857, 858, 859, 860, 861, 862, 863, 864, 865, 866, 867, 868, 869, 870, 871, 872, 873, 874, 875, 876, 877, 878, 879, 880, 881, 882, 883, 884, 885, 886, 887] (by decide +kernel) (by decide +kernel)
set_option maxRecDepth 20000 in
theorem gL_law_X8_walls : GoodIn wsL_law (wsV RL 28 RX8 yX8_walls wsX8_walls) := goodIn_app (goodIn_of _ (by decide +kernel)) ggL_law_X8_walls
set_option maxRecDepth 20000 in
theorem ggL_law_X7_wall : GoodIn wsL_law wsX7_wall := goodIn_r _ [408, 24, 409, 37, 410, 411, 412, 413, 414, 415, 416, 417, 2, 418, 419, 420, 421, 422, 36, 423, 87, 424, 425, 426, 845, 846, 847, 848, 849, 850, 851, 852, 853, 854, 896, 897, 898, 899, 900, 901, 902, 903, 911, 912, 913, 914, 915, 916, 917, 918, 919] (by decide +kernel) (by decide +kernel)
set_option maxRecDepth 20000 in
theorem gL_law_X7_wall : GoodIn wsL_law (wsV RL 29 RX7 yX7_wall wsX7_wall) := goodIn_app (goodIn_of _ (by decide +kernel)) ggL_law_X7_wall
set_option maxRecDepth 20000 in
theorem ggL_law_X8_wall : GoodIn wsL_law wsX8_wall := goodIn_r _ [430, 112, 108, 109, 110, 111, 400, 401, 431, 432, 433, 5, 434, 398, 143, 144, 145, 386, 387, 388, 389, 855, 856, 857, 858, 859, 860, 861, 862, 863, 864, 865, 866, 867, 868, 869, 870, 871, 872, 873, 874, 875, 876, 877, 878, 879, 880, 881, 882, 883, 884, 885, 886, 887] (by decide +kernel) (by decide +kernel)
set_option maxRecDepth 20000 in
theorem gL_law_X8_wall : GoodIn wsL_law (wsV RL 33 RX8 yX8_wall wsX8_wall) := goodIn_app (goodIn_of _ (by decide +kernel)) ggL_law_X8_wall
set_option maxRecDepth 20000 in
theorem ggL_law_X7_sees : GoodIn wsL_law wsX7_sees := goodIn_r _ [438, 37, 439, 415, 416, 417, 2, 418, 419, 845, 846, 847, 848, 849, 850, 851, 852, 853, 854, 911, 912, 913, 914, 915, 916, 917, 918, 919] (by decide +kernel) (by decide +kernel)
set_option maxRecDepth 20000 in
theorem gL_law_X7_sees : GoodIn wsL_law (wsV RL 34 RX7 yX7_sees wsX7_sees) := goodIn_app (goodIn_of _ (by decide +kernel)) ggL_law_X7_sees
set_option maxRecDepth 20000 in
theorem ggL_law_X8_sees : GoodIn wsL_law wsX8_sees := goodIn_r _ [443, 111, 431, 432, 433, 5, 434, 398, 143, 144, 145, 855, 856, 857, 858, 859, 860, 861, 862, 863, 864, 865, 866, 867, 868, 869, 870, 871, 872, 873, 874, 875, 876, 877, 878, 879, 880, 881, 882, 883, 884, 885, 886, 887] (by decide +kernel) (by decide +kernel)
set_option maxRecDepth 20000 in
theorem gL_law_X8_sees : GoodIn wsL_law (wsV RL 37 RX8 yX8_sees wsX8_sees) := goodIn_app (goodIn_of _ (by decide +kernel)) ggL_law_X8_sees
set_option maxRecDepth 20000 in
theorem ggL_law_X7_hour : GoodIn wsL_law wsX7_hour := goodIn_r _ [447, 24, 448, 37, 449, 450, 451, 23, 452, 326, 453, 62, 61, 454, 455, 456, 329, 425, 2, 426, 457, 458, 459, 460, 327, 461, 462, 328, 845, 846, 847, 848, 849, 850, 851, 852, 853, 854, 896, 897, 898, 899, 900, 901, 902, 903, 911, 912, 913, 914, 915, 916, 917, 918, 919] (by decide +kernel) (by decide +kernel)
set_option maxRecDepth 20000 in
theorem gL_law_X7_hour : GoodIn wsL_law (wsV RL 38 RX7 yX7_hour wsX7_hour) := goodIn_app (goodIn_of _ (by decide +kernel)) ggL_law_X7_hour
set_option maxRecDepth 20000 in
theorem ggL_law_X8_hour : GoodIn wsL_law wsX8_hour := goodIn_r _ [466, 399, 112, 400, 401, 402, 467, 468, 469, 5, 470, 398, 113, 110, 109, 108, 111, 855, 856, 857, 858, 859, 860, 861, 862, 863, 864, 865, 866, 867, 868, 869, 870, 871, 872, 873, 874, 875, 876, 877, 878, 879, 880, 881, 882, 883, 884, 885, 886, 887] (by decide +kernel) (by decide +kernel)
set_option maxRecDepth 20000 in
theorem gL_law_X8_hour : GoodIn wsL_law (wsV RL 41 RX8 yX8_hour wsX8_hour) := goodIn_app (goodIn_of _ (by decide +kernel)) ggL_law_X8_hour
set_option maxRecDepth 20000 in
theorem ggL_law_X7_shut : GoodIn wsL_law wsX7_shut := goodIn_r _ [474, 24, 413, 415, 416, 417, 2, 418, 37, 419, 475, 476, 477, 424, 425, 426, 478, 479, 480, 23, 481, 330, 63, 482, 483, 484, 485, 327, 328, 486, 487, 488, 489, 490, 491, 492, 845, 846, 847, 848, 849, 850, 851, 852, 853, 854, 896, 897, 898, 899, 900, 901, 902, 903, 911, 912, 913, 914, 915, 916, 917, 918, 919] (by decide +kernel) (by decide +kernel)
set_option maxRecDepth 20000 in
theorem gL_law_X7_shut : GoodIn wsL_law (wsV RL 42 RX7 yX7_shut wsX7_shut) := goodIn_app (goodIn_of _ (by decide +kernel)) ggL_law_X7_shut
set_option maxRecDepth 20000 in
theorem ggL_law_X8_shut : GoodIn wsL_law wsX8_shut := goodIn_r _ [496, 400, 431, 432, 433, 5, 434, 398, 143, 144, 145, 497, 498, 499, 500, 403, 114, 501, 502, 503, 855, 856, 857, 858, 859, 860, 861, 862, 863, 864, 865, 866, 867, 868, 869, 870, 871, 872, 873, 874, 875, 876, 877, 878, 879, 880, 881, 882, 883, 884, 885, 886, 887] (by decide +kernel) (by decide +kernel)
set_option maxRecDepth 20000 in
theorem gL_law_X8_shut : GoodIn wsL_law (wsV RL 45 RX8 yX8_shut wsX8_shut) := goodIn_app (goodIn_of _ (by decide +kernel)) ggL_law_X8_shut
set_option maxRecDepth 20000 in
theorem ggL_law_X7_mirror : GoodIn wsL_law wsX7_mirror := goodIn_r _ [507, 24, 414, 415, 416, 417, 2, 418, 37, 419, 475, 476, 477, 424, 425, 426, 478, 479, 480, 23, 481, 330, 63, 482, 483, 484, 485, 327, 328, 486, 487, 488, 489, 490, 491, 492, 845, 846, 847, 848, 849, 850, 851, 852, 853, 854, 896, 897, 898, 899, 900, 901, 902, 903, 911, 912, 913, 914, 915, 916, 917, 918, 919] (by decide +kernel) (by decide +kernel)
set_option maxRecDepth 20000 in
theorem gL_law_X7_mirror : GoodIn wsL_law (wsV RL 46 RX7 yX7_mirror wsX7_mirror) := goodIn_app (goodIn_of _ (by decide +kernel)) ggL_law_X7_mirror
set_option maxRecDepth 20000 in
theorem ggL_law_X8_mirror : GoodIn wsL_law wsX8_mirror := goodIn_r _ [511, 401, 431, 432, 433, 5, 434, 398, 143, 144, 145, 497, 498, 499, 500, 403, 114, 501, 502, 503, 855, 856, 857, 858, 859, 860, 861, 862, 863, 864, 865, 866, 867, 868, 869, 870, 871, 872, 873, 874, 875, 876, 877, 878, 879, 880, 881, 882, 883, 884, 885, 886, 887] (by decide +kernel) (by decide +kernel)
set_option maxRecDepth 20000 in
theorem gL_law_X8_mirror : GoodIn wsL_law (wsV RL 49 RX8 yX8_mirror wsX8_mirror) := goodIn_app (goodIn_of _ (by decide +kernel)) ggL_law_X8_mirror
set_option maxRecDepth 20000 in
theorem ggL_law_X7_undo : GoodIn wsL_law wsX7_undo := goodIn_r _ [515, 24, 516, 517, 518, 519, 23, 520, 330, 63, 482, 483, 484, 485, 327, 328, 845, 846, 847, 848, 849, 850, 851, 852, 853, 854, 896, 897, 898, 899, 900, 901, 902, 903] (by decide +kernel) (by decide +kernel)
set_option maxRecDepth 20000 in
theorem gL_law_X7_undo : GoodIn wsL_law (wsV RL 50 RX7 yX7_undo wsX7_undo) := goodIn_app (goodIn_of _ (by decide +kernel)) ggL_law_X7_undo
set_option maxRecDepth 20000 in
theorem ggL_law_X8_undo : GoodIn wsL_law wsX8_undo := goodIn_r _ [524, 403, 114, 400, 401, 855, 856, 857, 858, 859, 860, 861, 862, 863, 864, 865, 866, 867, 868, 869, 870, 871, 872, 873, 874, 875, 876, 877, 878, 879, 880, 881, 882, 883, 884, 885, 886, 887] (by decide +kernel) (by decide +kernel)
set_option maxRecDepth 20000 in
theorem gL_law_X8_undo : GoodIn wsL_law (wsV RL 53 RX8 yX8_undo wsX8_undo) := goodIn_app (goodIn_of _ (by decide +kernel)) ggL_law_X8_undo
set_option maxRecDepth 20000 in
theorem ggL_law_X7_now : GoodIn wsL_law wsX7_now := goodIn_r _ [528, 24, 448, 37, 419, 529, 530, 531, 532, 23, 533, 61, 534, 535, 536, 537, 453, 538, 539, 540, 541, 542, 845, 846, 847, 848, 849, 850, 851, 852, 853, 854, 896, 897, 898, 899, 900, 901, 902, 903, 911, 912, 913, 914, 915, 916, 917, 918, 919] (by decide +kernel) (by decide +kernel)
set_option maxRecDepth 20000 in
theorem gL_law_X7_now : GoodIn wsL_law (wsV RL 54 RX7 yX7_now wsX7_now) := goodIn_app (goodIn_of _ (by decide +kernel)) ggL_law_X7_now
set_option maxRecDepth 20000 in
theorem ggL_law_X8_now : GoodIn wsL_law wsX8_now := goodIn_r _ [546, 398, 112, 121, 399, 402, 855, 856, 857, 858, 859, 860, 861, 862, 863, 864, 865, 866, 867, 868, 869, 870, 871, 872, 873, 874, 875, 876, 877, 878, 879, 880, 881, 882, 883, 884, 885, 886, 887] (by decide +kernel) (by decide +kernel)
set_option maxRecDepth 20000 in
theorem gL_law_X8_now : GoodIn wsL_law (wsV RL 58 RX8 yX8_now wsX8_now) := goodIn_app (goodIn_of _ (by decide +kernel)) ggL_law_X8_now
set_option maxRecDepth 20000 in
theorem ggL_law_X7_behind : GoodIn wsL_law wsX7_behind := goodIn_r _ [550, 32, 24, 37, 551, 409, 552, 553, 2, 554, 415, 416, 417, 418, 419, 555, 556, 557, 31, 558, 74, 559, 560, 561, 23, 562, 326, 327, 328, 329, 61, 563, 564, 565, 566, 567, 450, 451, 452, 453, 62, 454, 455, 456, 425, 426, 457, 458, 459, 460, 461, 462, 845, 846, 847, 848, 849, 850, 851, 852, 853, 854, 908, 909, 910, 896, 897, 898, 899, 900, 901, 902, 903, 911, 912, 913, 914, 915, 916, 917, 918, 919] (by decide +kernel) (by decide +kernel)
set_option maxRecDepth 20000 in
theorem gL_law_X7_behind : GoodIn wsL_law (wsV RL 59 RX7 yX7_behind wsX7_behind) := goodIn_app (goodIn_of _ (by decide +kernel)) ggL_law_X7_behind
set_option maxRecDepth 20000 in
theorem ggL_law_X8_behind : GoodIn wsL_law wsX8_behind := goodIn_r _ [571, 572, 400, 401, 115, 143, 144, 5, 145, 431, 432, 433, 434, 398, 573, 574, 575, 576, 112, 577, 578, 579, 580, 399, 467, 468, 469, 470, 113, 110, 109, 108, 111, 855, 856, 857, 858, 859, 860, 861, 862, 863, 864, 865, 866, 867, 868, 869, 870, 871, 872, 873, 874, 875, 876, 877, 878, 879, 880, 881, 882, 883, 884, 885, 886, 887] (by decide +kernel) (by decide +kernel)
set_option maxRecDepth 20000 in
theorem gL_law_X8_behind : GoodIn wsL_law (wsV RL 62 RX8 yX8_behind wsX8_behind) := goodIn_app (goodIn_of _ (by decide +kernel)) ggL_law_X8_behind
set_option maxRecDepth 20000 in
theorem ggL_law_X7_first : GoodIn wsL_law wsX7_first := goodIn_r _ [584, 32, 24, 551, 37, 475, 476, 2, 477, 555, 556, 557, 31, 558, 74, 559, 560, 561, 23, 562, 326, 327, 328, 329, 61, 534, 535, 536, 537, 453, 538, 585, 586, 587, 424, 425, 426, 563, 564, 565, 566, 567, 450, 451, 452, 62, 454, 455, 456, 457, 458, 459, 460, 461, 462, 845, 846, 847, 848, 849, 850, 851, 852, 853, 854, 908, 909, 910, 896, 897, 898, 899, 900, 901, 902, 903, 911, 912, 913, 914, 915, 916, 917, 918, 919] (by decide +kernel) (by decide +kernel)
set_option maxRecDepth 20000 in
theorem gL_law_X7_first : GoodIn wsL_law (wsV RL 63 RX7 yX7_first wsX7_first) := goodIn_app (goodIn_of _ (by decide +kernel)) ggL_law_X7_first
set_option maxRecDepth 20000 in
theorem ggL_law_X8_first : GoodIn wsL_law wsX8_first := goodIn_r _ [591, 115, 399, 400, 401, 143, 144, 5, 145, 573, 574, 575, 576, 398, 112, 592, 593, 594, 595, 121, 467, 468, 469, 470, 113, 110, 109, 108, 111, 855, 856, 857, 858, 859, 860, 861, 862, 863, 864, 865, 866, 867, 868, 869, 870, 871, 872, 873, 874, 875, 876, 877, 878, 879, 880, 881, 882, 883, 884, 885, 886, 887] (by decide +kernel) (by decide +kernel)
set_option maxRecDepth 20000 in
theorem gL_law_X8_first : GoodIn wsL_law (wsV RL 66 RX8 yX8_first wsX8_first) := goodIn_app (goodIn_of _ (by decide +kernel)) ggL_law_X8_first
set_option maxRecDepth 20000 in
theorem ggL_law_X7_rest : GoodIn wsL_law wsX7_rest := goodIn_r _ [599, 32, 24, 37, 555, 556, 557, 31, 558, 74, 559, 560, 561, 23, 562, 326, 327, 328, 329, 61, 600, 601, 602, 603, 604, 77, 605, 606, 607, 608, 609, 567, 450, 451, 452, 453, 62, 454, 455, 456, 425, 2, 426, 457, 458, 459, 460, 461, 462, 845, 846, 847, 848, 849, 850, 851, 852, 853, 854, 908, 909, 910, 896, 897, 898, 899, 900, 901, 902, 903, 911, 912, 913, 914, 915, 916, 917, 918, 919] (by decide +kernel) (by decide +kernel)
set_option maxRecDepth 20000 in
theorem gL_law_X7_rest : GoodIn wsL_law (wsV RL 67 RX7 yX7_rest wsX7_rest) := goodIn_app (goodIn_of _ (by decide +kernel)) ggL_law_X7_rest
set_option maxRecDepth 20000 in
theorem ggL_law_X8_rest : GoodIn wsL_law wsX8_rest := goodIn_r _ [613, 400, 401, 398, 116, 115, 399, 573, 574, 575, 5, 576, 112, 577, 578, 579, 580, 467, 468, 469, 470, 113, 110, 109, 108, 111, 855, 856, 857, 858, 859, 860, 861, 862, 863, 864, 865, 866, 867, 868, 869, 870, 871, 872, 873, 874, 875, 876, 877, 878, 879, 880, 881, 882, 883, 884, 885, 886, 887] (by decide +kernel) (by decide +kernel)
set_option maxRecDepth 20000 in
theorem gL_law_X8_rest : GoodIn wsL_law (wsV RL 70 RX8 yX8_rest wsX8_rest) := goodIn_app (goodIn_of _ (by decide +kernel)) ggL_law_X8_rest
set_option maxRecDepth 20000 in
theorem ggL_law_X7_coolest : GoodIn wsL_law wsX7_coolest := goodIn_r _ [617, 37, 419, 32, 24, 552, 553, 2, 554, 475, 476, 477, 618, 619, 620, 31, 621, 74, 622, 604, 623, 556, 557, 558, 559, 560, 561, 23, 562, 326, 327, 328, 329, 61, 624, 564, 565, 566, 567, 450, 451, 452, 453, 62, 454, 455, 456, 425, 426, 457, 458, 459, 460, 461, 462, 625, 626, 627, 628, 629, 304, 305, 306, 845, 846, 847, 848, 849, 850, 851, 852, 853, 854, 911, 912, 913, 914, 915, 916, 917, 918, 919, 908, 909, 910, 896, 897, 898, 899, 900, 901, 902, 903] (by decide +kernel) (by decide +kernel)
set_option maxRecDepth 20000 in
theorem gL_law_X7_coolest : GoodIn wsL_law (wsV RL 71 RX7 yX7_coolest wsX7_coolest) := goodIn_app (goodIn_of _ (by decide +kernel)) ggL_law_X7_coolest
set_option maxRecDepth 20000 in
theorem ggL_law_X8_coolest : GoodIn wsL_law wsX8_coolest := goodIn_r _ [633, 634, 398, 401, 115, 143, 144, 5, 145, 573, 574, 575, 576, 112, 577, 578, 579, 580, 399, 467, 468, 469, 470, 113, 110, 109, 108, 111, 855, 856, 857, 858, 859, 860, 861, 862, 863, 864, 865, 866, 867, 868, 869, 870, 871, 872, 873, 874, 875, 876, 877, 878, 879, 880, 881, 882, 883, 884, 885, 886, 887] (by decide +kernel) (by decide +kernel)
set_option maxRecDepth 20000 in
theorem gL_law_X8_coolest : GoodIn wsL_law (wsV RL 74 RX8 yX8_coolest wsX8_coolest) := goodIn_app (goodIn_of _ (by decide +kernel)) ggL_law_X8_coolest
set_option maxRecDepth 20000 in
theorem ggL_law_X7_busy : GoodIn wsL_law wsX7_busy := goodIn_r _ [638, 32, 639, 37, 415, 416, 417, 2, 418, 419, 475, 476, 477, 640, 641, 642, 36, 643, 93, 98, 82, 83, 84, 85, 87, 88, 86, 644, 645, 646, 647, 412, 24, 486, 487, 488, 489, 490, 491, 492, 648, 649, 650, 31, 651, 74, 76, 623, 556, 557, 558, 559, 560, 561, 23, 562, 326, 327, 328, 329, 61, 567, 450, 451, 452, 453, 62, 454, 455, 456, 425, 426, 457, 458, 459, 460, 461, 462, 652, 535, 536, 537, 538, 845, 846, 847, 848, 849, 850, 851, 852, 853, 854, 908, 909, 910, 911, 912, 913, 914, 915, 916, 917, 918, 919, 896, 897, 898, 899, 900, 901, 902, 903] (by decide +kernel) (by decide +kernel)
set_option maxRecDepth 20000 in
theorem gL_law_X7_busy : GoodIn wsL_law (wsV RL 75 RX7 yX7_busy wsX7_busy) := goodIn_app (goodIn_of _ (by decide +kernel)) ggL_law_X7_busy
set_option maxRecDepth 20000 in
theorem ggL_law_X8_busy : GoodIn wsL_law wsX8_busy := goodIn_r _ [656, 110, 115, 399, 400, 401, 431, 432, 433, 5, 434, 398, 143, 144, 145, 573, 574, 575, 576, 112, 501, 502, 503, 467, 468, 469, 470, 113, 109, 108, 111, 592, 593, 594, 595, 121, 855, 856, 857, 858, 859, 860, 861, 862, 863, 864, 865, 866, 867, 868, 869, 870, 871, 872, 873, 874, 875, 876, 877, 878, 879, 880, 881, 882, 883, 884, 885, 886, 887] (by decide +kernel) (by decide +kernel)
set_option maxRecDepth 20000 in
theorem gL_law_X8_busy : GoodIn wsL_law (wsV RL 78 RX8 yX8_busy wsX8_busy) := goodIn_app (goodIn_of _ (by decide +kernel)) ggL_law_X8_busy
set_option maxRecDepth 20000 in
theorem ggL_law_X7_blanket : GoodIn wsL_law wsX7_blanket := goodIn_r _ [660, 37, 419, 415, 416, 417, 2, 418, 552, 553, 554, 661, 662, 663, 664, 24, 414, 32, 486, 487, 488, 489, 490, 491, 492, 665, 666, 667, 31, 668, 74, 669, 605, 623, 556, 557, 558, 559, 560, 561, 23, 562, 326, 327, 328, 329, 61, 624, 564, 565, 566, 567, 450, 451, 452, 453, 62, 454, 455, 456, 425, 426, 457, 458, 459, 460, 461, 462, 845, 846, 847, 848, 849, 850, 851, 852, 853, 854, 911, 912, 913, 914, 915, 916, 917, 918, 919, 896, 897, 898, 899, 900, 901, 902, 903, 908, 909, 910] (by decide +kernel) (by decide +kernel)
set_option maxRecDepth 20000 in
theorem gL_law_X7_blanket : GoodIn wsL_law (wsV RL 79 RX7 yX7_blanket wsX7_blanket) := goodIn_app (goodIn_of _ (by decide +kernel)) ggL_law_X7_blanket
set_option maxRecDepth 20000 in
theorem ggL_law_X8_blanket : GoodIn wsL_law wsX8_blanket := goodIn_r _ [673, 674, 634, 398, 401, 400, 115, 431, 432, 433, 5, 434, 143, 144, 145, 501, 502, 503, 573, 574, 575, 576, 112, 577, 578, 579, 580, 399, 467, 468, 469, 470, 113, 110, 109, 108, 111, 855, 856, 857, 858, 859, 860, 861, 862, 863, 864, 865, 866, 867, 868, 869, 870, 871, 872, 873, 874, 875, 876, 877, 878, 879, 880, 881, 882, 883, 884, 885, 886, 887] (by decide +kernel) (by decide +kernel)
set_option maxRecDepth 20000 in
theorem gL_law_X8_blanket : GoodIn wsL_law (wsV RL 83 RX8 yX8_blanket wsX8_blanket) := goodIn_app (goodIn_of _ (by decide +kernel)) ggL_law_X8_blanket
set_option maxRecDepth 20000 in
theorem ggL_law_X7_harm : GoodIn wsL_law wsX7_harm := goodIn_r _ [678, 679, 415, 416, 417, 2, 418, 37, 419, 680, 681, 682, 683, 684, 685, 686, 687, 32, 639, 24, 551, 688, 640, 641, 642, 36, 643, 93, 98, 82, 83, 84, 85, 87, 88, 86, 555, 556, 557, 31, 558, 74, 559, 560, 561, 23, 562, 326, 327, 328, 329, 61, 563, 564, 565, 566, 567, 450, 451, 452, 453, 62, 454, 455, 456, 425, 426, 457, 458, 459, 460, 461, 462, 530, 531, 532, 533, 845, 846, 847, 848, 849, 850, 851, 852, 853, 854, 911, 912, 913, 914, 915, 916, 917, 918, 919, 908, 909, 910, 896, 897, 898, 899, 900, 901, 902, 903] (by decide +kernel) (by decide +kernel)
set_option maxRecDepth 20000 in
theorem gL_law_X7_harm : GoodIn wsL_law (wsV RL 84 RX7 yX7_harm wsX7_harm) := goodIn_app (goodIn_of _ (by decide +kernel)) ggL_law_X7_harm
set_option maxRecDepth 20000 in
theorem ggL_law_X8_harm : GoodIn wsL_law wsX8_harm := goodIn_r _ [692, 572, 693, 398, 431, 432, 433, 5, 434, 143, 144, 145, 694, 695, 696, 697, 115, 399, 400, 401, 573, 574, 575, 576, 112, 467, 468, 469, 470, 113, 110, 109, 108, 111, 855, 856, 857, 858, 859, 860, 861, 862, 863, 864, 865, 866, 867, 868, 869, 870, 871, 872, 873, 874, 875, 876, 877, 878, 879, 880, 881, 882, 883, 884, 885, 886, 887] (by decide +kernel) (by decide +kernel)
set_option maxRecDepth 20000 in
theorem gL_law_X8_harm : GoodIn wsL_law (wsV RL 87 RX8 yX8_harm wsX8_harm) := goodIn_app (goodIn_of _ (by decide +kernel)) ggL_law_X8_harm
set_option maxRecDepth 20000 in
theorem ggL_law_X7_saw : GoodIn wsL_law wsX7_saw := goodIn_r _ [701, 28, 158, 552, 553, 2, 554, 415, 416, 417, 418, 37, 419, 702, 703, 704, 27, 705, 706, 67, 68, 69, 845, 846, 847, 848, 849, 850, 851, 852, 853, 854, 904, 905, 906, 907, 911, 912, 913, 914, 915, 916, 917, 918, 919] (by decide +kernel) (by decide +kernel)
set_option maxRecDepth 20000 in
theorem gL_law_X7_saw : GoodIn wsL_law (wsV RL 88 RX7 yX7_saw wsX7_saw) := goodIn_app (goodIn_of _ (by decide +kernel)) ggL_law_X7_saw
set_option maxRecDepth 20000 in
theorem ggL_law_X8_saw : GoodIn wsL_law wsX8_saw := goodIn_r _ [710, 634, 711, 404, 117, 118, 119, 143, 144, 5, 145, 431, 432, 433, 434, 398, 855, 856, 857, 858, 859, 860, 861, 862, 863, 864, 865, 866, 867, 868, 869, 870, 871, 872, 873, 874, 875, 876, 877, 878, 879, 880, 881, 882, 883, 884, 885, 886, 887] (by decide +kernel) (by decide +kernel)
set_option maxRecDepth 20000 in
theorem gL_law_X8_saw : GoodIn wsL_law (wsV RL 91 RX8 yX8_saw wsX8_saw) := goodIn_app (goodIn_of _ (by decide +kernel)) ggL_law_X8_saw
set_option maxRecDepth 20000 in
theorem ggL_law_X7_forget : GoodIn wsL_law wsX7_forget := goodIn_r _ [715, 28, 158, 845, 846, 847, 848, 849, 850, 851, 852, 853, 854, 904, 905, 906, 907] (by decide +kernel) (by decide +kernel)
set_option maxRecDepth 20000 in
theorem gL_law_X7_forget : GoodIn wsL_law (wsV RL 92 RX7 yX7_forget wsX7_forget) := goodIn_app (goodIn_of _ (by decide +kernel)) ggL_law_X7_forget
set_option maxRecDepth 20000 in
theorem ggL_law_X8_forget : GoodIn wsL_law wsX8_forget := goodIn_r _ [719, 404, 855, 856, 857, 858, 859, 860, 861, 862, 863, 864, 865, 866, 867, 868, 869, 870, 871, 872, 873, 874, 875, 876, 877, 878, 879, 880, 881, 882, 883, 884, 885, 886, 887] (by decide +kernel) (by decide +kernel)
set_option maxRecDepth 20000 in
theorem gL_law_X8_forget : GoodIn wsL_law (wsV RL 95 RX8 yX8_forget wsX8_forget) := goodIn_app (goodIn_of _ (by decide +kernel)) ggL_law_X8_forget
set_option maxRecDepth 20000 in
theorem ggL_law_X7_holes : GoodIn wsL_law wsX7_holes := goodIn_r _ [723, 32, 639, 37, 415, 416, 417, 2, 418, 419, 640, 641, 642, 36, 643, 93, 98, 82, 83, 84, 85, 87, 88, 86, 724, 725, 726, 727, 28, 728, 729, 730, 31, 731, 74, 76, 732, 323, 324, 23, 325, 326, 327, 328, 329, 330, 61, 331, 733, 734, 735, 27, 736, 706, 67, 737, 304, 305, 306, 738, 739, 740, 741, 742, 68, 69, 567, 450, 451, 452, 453, 62, 454, 455, 456, 425, 426, 457, 458, 459, 460, 461, 462, 743, 744, 745, 746, 410, 845, 846, 847, 848, 849, 850, 851, 852, 853, 854, 908, 909, 910, 911, 912, 913, 914, 915, 916, 917, 918, 919, 896, 897, 898, 899, 900, 901, 902, 903, 904, 905, 906, 907] (by decide +kernel) (by decide +kernel)
set_option maxRecDepth 20000 in
theorem gL_law_X7_holes : GoodIn wsL_law (wsV RL 96 RX7 yX7_holes wsX7_holes) := goodIn_app (goodIn_of _ (by decide +kernel)) ggL_law_X7_holes
set_option maxRecDepth 20000 in
theorem ggL_law_X8_holes : GoodIn wsL_law wsX8_holes := goodIn_r _ [750, 398, 431, 432, 433, 5, 434, 143, 144, 145, 751, 752, 753, 754, 108, 755, 756, 757, 758, 115, 107, 404, 117, 118, 119, 467, 468, 469, 470, 113, 110, 109, 111, 855, 856, 857, 858, 859, 860, 861, 862, 863, 864, 865, 866, 867, 868, 869, 870, 871, 872, 873, 874, 875, 876, 877, 878, 879, 880, 881, 882, 883, 884, 885, 886, 887] (by decide +kernel) (by decide +kernel)
set_option maxRecDepth 20000 in
theorem gL_law_X8_holes : GoodIn wsL_law (wsV RL 99 RX8 yX8_holes wsX8_holes) := goodIn_app (goodIn_of _ (by decide +kernel)) ggL_law_X8_holes
set_option maxRecDepth 20000 in
theorem ggL_law_X7_mark : GoodIn wsL_law wsX7_mark := goodIn_r _ [762, 679, 415, 416, 417, 2, 418, 37, 419, 763, 764, 765, 766, 767, 24, 409, 768, 769, 770, 771, 772, 410, 773, 774, 775, 776, 777, 420, 421, 422, 36, 423, 87, 778, 779, 780, 781, 782, 783, 784, 785, 786, 787, 788, 789, 790, 791, 792, 448, 845, 846, 847, 848, 849, 850, 851, 852, 853, 854, 911, 912, 913, 914, 915, 916, 917, 918, 919, 896, 897, 898, 899, 900, 901, 902, 903] (by decide +kernel) (by decide +kernel)
set_option maxRecDepth 20000 in
theorem gL_law_X7_mark : GoodIn wsL_law (wsV RL 100 RX7 yX7_mark wsX7_mark) := goodIn_app (goodIn_of _ (by decide +kernel)) ggL_law_X7_mark
set_option maxRecDepth 20000 in
theorem ggL_law_X8_mark : GoodIn wsL_law wsX8_mark := goodIn_r _ [796, 797, 693, 798, 799, 800, 801, 802, 803, 111, 112, 108, 399, 143, 144, 5, 145, 431, 432, 433, 434, 398, 386, 387, 388, 389, 855, 856, 857, 858, 859, 860, 861, 862, 863, 864, 865, 866, 867, 868, 869, 870, 871, 872, 873, 874, 875, 876, 877, 878, 879, 880, 881, 882, 883, 884, 885, 886, 887] (by decide +kernel) (by decide +kernel)
set_option maxRecDepth 20000 in
theorem gL_law_X8_mark : GoodIn wsL_law (wsV RL 103 RX8 yX8_mark wsX8_mark) := goodIn_app (goodIn_of _ (by decide +kernel)) ggL_law_X8_mark
set_option maxRecDepth 20000 in
theorem ggL_law_X7_keep : GoodIn wsL_law wsX7_keep := goodIn_r _ [807, 33, 24, 159, 448, 808, 809, 2, 810, 811, 812, 813, 23, 814, 330, 63, 815, 560, 561, 562, 326, 327, 328, 329, 61, 845, 846, 847, 848, 849, 850, 851, 852, 853, 854, 896, 897, 898, 899, 900, 901, 902, 903] (by decide +kernel) (by decide +kernel)
set_option maxRecDepth 20000 in
theorem gL_law_X7_keep : GoodIn wsL_law (wsV RL 104 RX7 yX7_keep wsX7_keep) := goodIn_app (goodIn_of _ (by decide +kernel)) ggL_law_X7_keep
set_option maxRecDepth 20000 in
theorem ggL_law_X8_keep : GoodIn wsL_law wsX8_keep := goodIn_r _ [819, 120, 399, 400, 401, 402, 403, 112, 114, 143, 144, 5, 145, 855, 856, 857, 858, 859, 860, 861, 862, 863, 864, 865, 866, 867, 868, 869, 870, 871, 872, 873, 874, 875, 876, 877, 878, 879, 880, 881, 882, 883, 884, 885, 886, 887] (by decide +kernel) (by decide +kernel)
set_option maxRecDepth 20000 in
theorem gL_law_X8_keep : GoodIn wsL_law (wsV RL 107 RX8 yX8_keep wsX8_keep) := goodIn_app (goodIn_of _ (by decide +kernel)) ggL_law_X8_keep
set_option maxRecDepth 20000 in
theorem ggL_law_X7_back : GoodIn wsL_law wsX7_back := goodIn_r _ [823, 159, 24, 33, 448, 808, 809, 2, 810, 424, 425, 426, 811, 812, 813, 23, 814, 330, 63, 815, 560, 561, 562, 326, 327, 328, 329, 61, 845, 846, 847, 848, 849, 850, 851, 852, 853, 854, 896, 897, 898, 899, 900, 901, 902, 903] (by decide +kernel) (by decide +kernel)
set_option maxRecDepth 20000 in
theorem gL_law_X7_back : GoodIn wsL_law (wsV RL 108 RX7 yX7_back wsX7_back) := goodIn_app (goodIn_of _ (by decide +kernel)) ggL_law_X7_back
set_option maxRecDepth 20000 in
theorem ggL_law_X8_back : GoodIn wsL_law wsX8_back := goodIn_r _ [827, 120, 399, 400, 401, 402, 403, 112, 114, 143, 144, 5, 145, 855, 856, 857, 858, 859, 860, 861, 862, 863, 864, 865, 866, 867, 868, 869, 870, 871, 872, 873, 874, 875, 876, 877, 878, 879, 880, 881, 882, 883, 884, 885, 886, 887] (by decide +kernel) (by decide +kernel)
set_option maxRecDepth 20000 in
theorem gL_law_X8_back : GoodIn wsL_law (wsV RL 111 RX8 yX8_back wsX8_back) := goodIn_app (goodIn_of _ (by decide +kernel)) ggL_law_X8_back
set_option maxRecDepth 20000 in
theorem ggL_law_X7_count : GoodIn wsL_law wsX7_count := goodIn_r _ [831, 37, 419, 832, 24, 413, 414, 28, 158, 516, 16, 126, 486, 487, 488, 489, 490, 491, 492, 845, 846, 847, 848, 849, 850, 851, 852, 853, 854, 911, 912, 913, 914, 915, 916, 917, 918, 919, 896, 897, 898, 899, 900, 901, 902, 903, 904, 905, 906, 907, 888, 889] (by decide +kernel) (by decide +kernel)
set_option maxRecDepth 20000 in
theorem gL_law_X7_count : GoodIn wsL_law (wsV RL 112 RX7 yX7_count wsX7_count) := goodIn_app (goodIn_of _ (by decide +kernel)) ggL_law_X7_count
set_option maxRecDepth 20000 in
theorem ggL_law_X8_count : GoodIn wsL_law wsX8_count := goodIn_r _ [836, 398, 121, 400, 401, 404, 403, 141, 501, 502, 5, 503, 855, 856, 857, 858, 859, 860, 861, 862, 863, 864, 865, 866, 867, 868, 869, 870, 871, 872, 873, 874, 875, 876, 877, 878, 879, 880, 881, 882, 883, 884, 885, 886, 887] (by decide +kernel) (by decide +kernel)
set_option maxRecDepth 20000 in
theorem gL_law_X8_count : GoodIn wsL_law (wsV RL 115 RX8 yX8_count wsX8_count) := goodIn_app (goodIn_of _ (by decide +kernel)) ggL_law_X8_count
set_option maxRecDepth 20000 in
theorem ggL_law_X7_trace : GoodIn wsL_law wsX7_trace := goodIn_r _ [840, 767, 845, 846, 847, 848, 849, 850, 851, 852, 853, 854] (by decide +kernel) (by decide +kernel)
set_option maxRecDepth 20000 in
theorem gL_law_X7_trace : GoodIn wsL_law (wsV RL 116 RX7 yX7_trace wsX7_trace) := goodIn_app (goodIn_of _ (by decide +kernel)) ggL_law_X7_trace
set_option maxRecDepth 20000 in
theorem ggL_law_X8_trace : GoodIn wsL_law wsX8_trace := goodIn_r _ [844, 798, 855, 856, 857, 858, 859, 860, 861, 862, 863, 864, 865, 866, 867, 868, 869, 870, 871, 872, 873, 874, 875, 876, 877, 878, 879, 880, 881, 882, 883, 884, 885, 886, 887] (by decide +kernel) (by decide +kernel)
set_option maxRecDepth 20000 in
theorem gL_law_X8_trace : GoodIn wsL_law (wsV RL 120 RX8 yX8_trace wsX8_trace) := goodIn_app (goodIn_of _ (by decide +kernel)) ggL_law_X8_trace
theorem dL_law_0 : decode cL_law 0 = .ok (.new 7, 3) := by decide +kernel
theorem dL_law_3 : decode cL_law 3 = .ok (.dup, 1) := by decide +kernel
theorem dL_law_4 : decode cL_law 4 = .ok (.invokespecial 9, 3) := by decide +kernel
theorem dL_law_7 : decode cL_law 7 = .ok (.astore_n 1, 1) := by decide +kernel
theorem dL_law_8 : decode cL_law 8 = .ok (.new 10, 3) := by decide +kernel
theorem dL_law_11 : decode cL_law 11 = .ok (.dup, 1) := by decide +kernel
theorem dL_law_12 : decode cL_law 12 = .ok (.invokespecial 12, 3) := by decide +kernel
theorem dL_law_15 : decode cL_law 15 = .ok (.astore_n 2, 1) := by decide +kernel
theorem dL_law_16 : decode cL_law 16 = .ok (.iconst 0, 1) := by decide +kernel
theorem dL_law_17 : decode cL_law 17 = .ok (.istore_n 3, 1) := by decide +kernel
theorem dL_law_18 : decode cL_law 18 = .ok (.iload_n 3, 1) := by decide +kernel
theorem dL_law_19 : decode cL_law 19 = .ok (.aload_n 0, 1) := by decide +kernel
theorem dL_law_20 : decode cL_law 20 = .ok (.arraylength, 1) := by decide +kernel
theorem dL_law_21 : decode cL_law 21 = .ok (.iconst 4, 1) := by decide +kernel
theorem dL_law_22 : decode cL_law 22 = .ok (.isub, 1) := by decide +kernel
theorem dL_law_23 : decode cL_law 23 = .ok (.if_icmp .gt 807, 3) := by decide +kernel
theorem dL_law_26 : decode cL_law 26 = .ok (.aload_n 0, 1) := by decide +kernel
theorem dL_law_27 : decode cL_law 27 = .ok (.iload_n 3, 1) := by decide +kernel
theorem dL_law_28 : decode cL_law 28 = .ok (.iaload, 1) := by decide +kernel
theorem dL_law_29 : decode cL_law 29 = .ok (.bipush 31, 2) := by decide +kernel
theorem dL_law_31 : decode cL_law 31 = .ok (.iand, 1) := by decide +kernel
theorem dL_law_32 : decode cL_law 32 = .ok (.tableswitch 792 0 24 #[116, 179, 192, 205, 238, 271, 284, 317, 350, 363, 386, 419, 442, 455, 488, 521, 564, 597, 640, 653, 676, 709, 732, 755, 778], 116) := by decide +kernel
theorem dL_law_148 : decode cL_law 148 = .ok (.aload_n 1, 1) := by decide +kernel
theorem dL_law_149 : decode cL_law 149 = .ok (.aload_n 0, 1) := by decide +kernel
theorem dL_law_150 : decode cL_law 150 = .ok (.iload_n 3, 1) := by decide +kernel
theorem dL_law_151 : decode cL_law 151 = .ok (.iconst 1, 1) := by decide +kernel
theorem dL_law_152 : decode cL_law 152 = .ok (.iadd, 1) := by decide +kernel
theorem dL_law_153 : decode cL_law 153 = .ok (.iaload, 1) := by decide +kernel
theorem dL_law_154 : decode cL_law 154 = .ok (.i2l, 1) := by decide +kernel
theorem dL_law_155 : decode cL_law 155 = .ok (.bipush 32, 2) := by decide +kernel
theorem dL_law_157 : decode cL_law 157 = .ok (.lshl, 1) := by decide +kernel
theorem dL_law_158 : decode cL_law 158 = .ok (.aload_n 0, 1) := by decide +kernel
theorem dL_law_159 : decode cL_law 159 = .ok (.iload_n 3, 1) := by decide +kernel
theorem dL_law_160 : decode cL_law 160 = .ok (.iconst 2, 1) := by decide +kernel
theorem dL_law_161 : decode cL_law 161 = .ok (.iadd, 1) := by decide +kernel
theorem dL_law_162 : decode cL_law 162 = .ok (.iaload, 1) := by decide +kernel
theorem dL_law_163 : decode cL_law 163 = .ok (.i2l, 1) := by decide +kernel
theorem dL_law_164 : decode cL_law 164 = .ok (.ldc2_w 13, 3) := by decide +kernel
theorem dL_law_167 : decode cL_law 167 = .ok (.land, 1) := by decide +kernel
theorem dL_law_168 : decode cL_law 168 = .ok (.lor, 1) := by decide +kernel
theorem dL_law_169 : decode cL_law 169 = .ok (.aload_n 0, 1) := by decide +kernel
theorem dL_law_170 : decode cL_law 170 = .ok (.iload_n 3, 1) := by decide +kernel
theorem dL_law_171 : decode cL_law 171 = .ok (.iconst 3, 1) := by decide +kernel
theorem dL_law_172 : decode cL_law 172 = .ok (.iadd, 1) := by decide +kernel
theorem dL_law_173 : decode cL_law 173 = .ok (.iaload, 1) := by decide +kernel
theorem dL_law_174 : decode cL_law 174 = .ok (.invokevirtual 15, 3) := by decide +kernel
theorem dL_law_177 : decode cL_law 177 = .ok (.aload_n 2, 1) := by decide +kernel
theorem dL_law_178 : decode cL_law 178 = .ok (.aload_n 0, 1) := by decide +kernel
theorem dL_law_179 : decode cL_law 179 = .ok (.iload_n 3, 1) := by decide +kernel
theorem dL_law_180 : decode cL_law 180 = .ok (.iconst 1, 1) := by decide +kernel
theorem dL_law_181 : decode cL_law 181 = .ok (.iadd, 1) := by decide +kernel
theorem dL_law_182 : decode cL_law 182 = .ok (.iaload, 1) := by decide +kernel
theorem dL_law_183 : decode cL_law 183 = .ok (.i2l, 1) := by decide +kernel
theorem dL_law_184 : decode cL_law 184 = .ok (.bipush 32, 2) := by decide +kernel
theorem dL_law_186 : decode cL_law 186 = .ok (.lshl, 1) := by decide +kernel
theorem dL_law_187 : decode cL_law 187 = .ok (.aload_n 0, 1) := by decide +kernel
theorem dL_law_188 : decode cL_law 188 = .ok (.iload_n 3, 1) := by decide +kernel
theorem dL_law_189 : decode cL_law 189 = .ok (.iconst 2, 1) := by decide +kernel
theorem dL_law_190 : decode cL_law 190 = .ok (.iadd, 1) := by decide +kernel
theorem dL_law_191 : decode cL_law 191 = .ok (.iaload, 1) := by decide +kernel
theorem dL_law_192 : decode cL_law 192 = .ok (.i2l, 1) := by decide +kernel
theorem dL_law_193 : decode cL_law 193 = .ok (.ldc2_w 13, 3) := by decide +kernel
theorem dL_law_196 : decode cL_law 196 = .ok (.land, 1) := by decide +kernel
theorem dL_law_197 : decode cL_law 197 = .ok (.lor, 1) := by decide +kernel
theorem dL_law_198 : decode cL_law 198 = .ok (.aload_n 0, 1) := by decide +kernel
theorem dL_law_199 : decode cL_law 199 = .ok (.iload_n 3, 1) := by decide +kernel
theorem dL_law_200 : decode cL_law 200 = .ok (.iconst 3, 1) := by decide +kernel
theorem dL_law_201 : decode cL_law 201 = .ok (.iadd, 1) := by decide +kernel
theorem dL_law_202 : decode cL_law 202 = .ok (.iaload, 1) := by decide +kernel
theorem dL_law_203 : decode cL_law 203 = .ok (.invokevirtual 19, 3) := by decide +kernel
theorem dL_law_206 : decode cL_law 206 = .ok (.if_icmp .eq 618, 3) := by decide +kernel
theorem dL_law_209 : decode cL_law 209 = .ok (.iconst 0, 1) := by decide +kernel
theorem dL_law_210 : decode cL_law 210 = .ok (.ireturn, 1) := by decide +kernel
theorem dL_law_211 : decode cL_law 211 = .ok (.aload_n 1, 1) := by decide +kernel
theorem dL_law_212 : decode cL_law 212 = .ok (.invokevirtual 20, 3) := by decide +kernel
theorem dL_law_215 : decode cL_law 215 = .ok (.aload_n 2, 1) := by decide +kernel
theorem dL_law_216 : decode cL_law 216 = .ok (.invokevirtual 24, 3) := by decide +kernel
theorem dL_law_219 : decode cL_law 219 = .ok (.if_icmp .eq 605, 3) := by decide +kernel
theorem dL_law_222 : decode cL_law 222 = .ok (.iconst 0, 1) := by decide +kernel
theorem dL_law_223 : decode cL_law 223 = .ok (.ireturn, 1) := by decide +kernel
theorem dL_law_224 : decode cL_law 224 = .ok (.aload_n 1, 1) := by decide +kernel
theorem dL_law_225 : decode cL_law 225 = .ok (.invokevirtual 25, 3) := by decide +kernel
theorem dL_law_228 : decode cL_law 228 = .ok (.aload_n 2, 1) := by decide +kernel
theorem dL_law_229 : decode cL_law 229 = .ok (.invokevirtual 28, 3) := by decide +kernel
theorem dL_law_232 : decode cL_law 232 = .ok (.if_icmp .eq 592, 3) := by decide +kernel
theorem dL_law_235 : decode cL_law 235 = .ok (.iconst 0, 1) := by decide +kernel
theorem dL_law_236 : decode cL_law 236 = .ok (.ireturn, 1) := by decide +kernel
theorem dL_law_237 : decode cL_law 237 = .ok (.aload_n 1, 1) := by decide +kernel
theorem dL_law_238 : decode cL_law 238 = .ok (.aload_n 0, 1) := by decide +kernel
theorem dL_law_239 : decode cL_law 239 = .ok (.iload_n 3, 1) := by decide +kernel
theorem dL_law_240 : decode cL_law 240 = .ok (.iconst 1, 1) := by decide +kernel
theorem dL_law_241 : decode cL_law 241 = .ok (.iadd, 1) := by decide +kernel
theorem dL_law_242 : decode cL_law 242 = .ok (.iaload, 1) := by decide +kernel
theorem dL_law_243 : decode cL_law 243 = .ok (.aload_n 0, 1) := by decide +kernel
theorem dL_law_244 : decode cL_law 244 = .ok (.iload_n 3, 1) := by decide +kernel
theorem dL_law_245 : decode cL_law 245 = .ok (.iconst 2, 1) := by decide +kernel
theorem dL_law_246 : decode cL_law 246 = .ok (.iadd, 1) := by decide +kernel
theorem dL_law_247 : decode cL_law 247 = .ok (.iaload, 1) := by decide +kernel
theorem dL_law_248 : decode cL_law 248 = .ok (.invokevirtual 29, 3) := by decide +kernel
theorem dL_law_251 : decode cL_law 251 = .ok (.aload_n 2, 1) := by decide +kernel
theorem dL_law_252 : decode cL_law 252 = .ok (.aload_n 0, 1) := by decide +kernel
theorem dL_law_253 : decode cL_law 253 = .ok (.iload_n 3, 1) := by decide +kernel
theorem dL_law_254 : decode cL_law 254 = .ok (.iconst 1, 1) := by decide +kernel
theorem dL_law_255 : decode cL_law 255 = .ok (.iadd, 1) := by decide +kernel
theorem dL_law_256 : decode cL_law 256 = .ok (.iaload, 1) := by decide +kernel
theorem dL_law_257 : decode cL_law 257 = .ok (.aload_n 0, 1) := by decide +kernel
theorem dL_law_258 : decode cL_law 258 = .ok (.iload_n 3, 1) := by decide +kernel
theorem dL_law_259 : decode cL_law 259 = .ok (.iconst 2, 1) := by decide +kernel
theorem dL_law_260 : decode cL_law 260 = .ok (.iadd, 1) := by decide +kernel
theorem dL_law_261 : decode cL_law 261 = .ok (.iaload, 1) := by decide +kernel
theorem dL_law_262 : decode cL_law 262 = .ok (.invokevirtual 33, 3) := by decide +kernel
theorem dL_law_265 : decode cL_law 265 = .ok (.if_icmp .eq 559, 3) := by decide +kernel
theorem dL_law_268 : decode cL_law 268 = .ok (.iconst 0, 1) := by decide +kernel
theorem dL_law_269 : decode cL_law 269 = .ok (.ireturn, 1) := by decide +kernel
theorem dL_law_270 : decode cL_law 270 = .ok (.aload_n 1, 1) := by decide +kernel
theorem dL_law_271 : decode cL_law 271 = .ok (.aload_n 0, 1) := by decide +kernel
theorem dL_law_272 : decode cL_law 272 = .ok (.iload_n 3, 1) := by decide +kernel
theorem dL_law_273 : decode cL_law 273 = .ok (.iconst 1, 1) := by decide +kernel
theorem dL_law_274 : decode cL_law 274 = .ok (.iadd, 1) := by decide +kernel
theorem dL_law_275 : decode cL_law 275 = .ok (.iaload, 1) := by decide +kernel
theorem dL_law_276 : decode cL_law 276 = .ok (.aload_n 0, 1) := by decide +kernel
theorem dL_law_277 : decode cL_law 277 = .ok (.iload_n 3, 1) := by decide +kernel
theorem dL_law_278 : decode cL_law 278 = .ok (.iconst 2, 1) := by decide +kernel
theorem dL_law_279 : decode cL_law 279 = .ok (.iadd, 1) := by decide +kernel
theorem dL_law_280 : decode cL_law 280 = .ok (.iaload, 1) := by decide +kernel
theorem dL_law_281 : decode cL_law 281 = .ok (.invokevirtual 34, 3) := by decide +kernel
theorem dL_law_284 : decode cL_law 284 = .ok (.aload_n 2, 1) := by decide +kernel
theorem dL_law_285 : decode cL_law 285 = .ok (.aload_n 0, 1) := by decide +kernel
theorem dL_law_286 : decode cL_law 286 = .ok (.iload_n 3, 1) := by decide +kernel
theorem dL_law_287 : decode cL_law 287 = .ok (.iconst 1, 1) := by decide +kernel
theorem dL_law_288 : decode cL_law 288 = .ok (.iadd, 1) := by decide +kernel
theorem dL_law_289 : decode cL_law 289 = .ok (.iaload, 1) := by decide +kernel
theorem dL_law_290 : decode cL_law 290 = .ok (.aload_n 0, 1) := by decide +kernel
theorem dL_law_291 : decode cL_law 291 = .ok (.iload_n 3, 1) := by decide +kernel
theorem dL_law_292 : decode cL_law 292 = .ok (.iconst 2, 1) := by decide +kernel
theorem dL_law_293 : decode cL_law 293 = .ok (.iadd, 1) := by decide +kernel
theorem dL_law_294 : decode cL_law 294 = .ok (.iaload, 1) := by decide +kernel
theorem dL_law_295 : decode cL_law 295 = .ok (.invokevirtual 37, 3) := by decide +kernel
theorem dL_law_298 : decode cL_law 298 = .ok (.if_icmp .eq 526, 3) := by decide +kernel
theorem dL_law_301 : decode cL_law 301 = .ok (.iconst 0, 1) := by decide +kernel
theorem dL_law_302 : decode cL_law 302 = .ok (.ireturn, 1) := by decide +kernel
theorem dL_law_303 : decode cL_law 303 = .ok (.aload_n 1, 1) := by decide +kernel
theorem dL_law_304 : decode cL_law 304 = .ok (.invokevirtual 38, 3) := by decide +kernel
theorem dL_law_307 : decode cL_law 307 = .ok (.aload_n 2, 1) := by decide +kernel
theorem dL_law_308 : decode cL_law 308 = .ok (.invokevirtual 41, 3) := by decide +kernel
theorem dL_law_311 : decode cL_law 311 = .ok (.if_icmp .eq 513, 3) := by decide +kernel
theorem dL_law_314 : decode cL_law 314 = .ok (.iconst 0, 1) := by decide +kernel
theorem dL_law_315 : decode cL_law 315 = .ok (.ireturn, 1) := by decide +kernel
theorem dL_law_316 : decode cL_law 316 = .ok (.aload_n 1, 1) := by decide +kernel
theorem dL_law_317 : decode cL_law 317 = .ok (.aload_n 0, 1) := by decide +kernel
theorem dL_law_318 : decode cL_law 318 = .ok (.iload_n 3, 1) := by decide +kernel
theorem dL_law_319 : decode cL_law 319 = .ok (.iconst 1, 1) := by decide +kernel
theorem dL_law_320 : decode cL_law 320 = .ok (.iadd, 1) := by decide +kernel
theorem dL_law_321 : decode cL_law 321 = .ok (.iaload, 1) := by decide +kernel
theorem dL_law_322 : decode cL_law 322 = .ok (.aload_n 0, 1) := by decide +kernel
theorem dL_law_323 : decode cL_law 323 = .ok (.iload_n 3, 1) := by decide +kernel
theorem dL_law_324 : decode cL_law 324 = .ok (.iconst 2, 1) := by decide +kernel
theorem dL_law_325 : decode cL_law 325 = .ok (.iadd, 1) := by decide +kernel
theorem dL_law_326 : decode cL_law 326 = .ok (.iaload, 1) := by decide +kernel
theorem dL_law_327 : decode cL_law 327 = .ok (.invokevirtual 42, 3) := by decide +kernel
theorem dL_law_330 : decode cL_law 330 = .ok (.aload_n 2, 1) := by decide +kernel
theorem dL_law_331 : decode cL_law 331 = .ok (.aload_n 0, 1) := by decide +kernel
theorem dL_law_332 : decode cL_law 332 = .ok (.iload_n 3, 1) := by decide +kernel
theorem dL_law_333 : decode cL_law 333 = .ok (.iconst 1, 1) := by decide +kernel
theorem dL_law_334 : decode cL_law 334 = .ok (.iadd, 1) := by decide +kernel
theorem dL_law_335 : decode cL_law 335 = .ok (.iaload, 1) := by decide +kernel
theorem dL_law_336 : decode cL_law 336 = .ok (.aload_n 0, 1) := by decide +kernel
theorem dL_law_337 : decode cL_law 337 = .ok (.iload_n 3, 1) := by decide +kernel
theorem dL_law_338 : decode cL_law 338 = .ok (.iconst 2, 1) := by decide +kernel
theorem dL_law_339 : decode cL_law 339 = .ok (.iadd, 1) := by decide +kernel
theorem dL_law_340 : decode cL_law 340 = .ok (.iaload, 1) := by decide +kernel
theorem dL_law_341 : decode cL_law 341 = .ok (.invokevirtual 45, 3) := by decide +kernel
theorem dL_law_344 : decode cL_law 344 = .ok (.if_icmp .eq 480, 3) := by decide +kernel
theorem dL_law_347 : decode cL_law 347 = .ok (.iconst 0, 1) := by decide +kernel
theorem dL_law_348 : decode cL_law 348 = .ok (.ireturn, 1) := by decide +kernel
theorem dL_law_349 : decode cL_law 349 = .ok (.aload_n 1, 1) := by decide +kernel
theorem dL_law_350 : decode cL_law 350 = .ok (.aload_n 0, 1) := by decide +kernel
theorem dL_law_351 : decode cL_law 351 = .ok (.iload_n 3, 1) := by decide +kernel
theorem dL_law_352 : decode cL_law 352 = .ok (.iconst 1, 1) := by decide +kernel
theorem dL_law_353 : decode cL_law 353 = .ok (.iadd, 1) := by decide +kernel
theorem dL_law_354 : decode cL_law 354 = .ok (.iaload, 1) := by decide +kernel
theorem dL_law_355 : decode cL_law 355 = .ok (.aload_n 0, 1) := by decide +kernel
theorem dL_law_356 : decode cL_law 356 = .ok (.iload_n 3, 1) := by decide +kernel
theorem dL_law_357 : decode cL_law 357 = .ok (.iconst 2, 1) := by decide +kernel
theorem dL_law_358 : decode cL_law 358 = .ok (.iadd, 1) := by decide +kernel
theorem dL_law_359 : decode cL_law 359 = .ok (.iaload, 1) := by decide +kernel
theorem dL_law_360 : decode cL_law 360 = .ok (.invokevirtual 46, 3) := by decide +kernel
theorem dL_law_363 : decode cL_law 363 = .ok (.aload_n 2, 1) := by decide +kernel
theorem dL_law_364 : decode cL_law 364 = .ok (.aload_n 0, 1) := by decide +kernel
theorem dL_law_365 : decode cL_law 365 = .ok (.iload_n 3, 1) := by decide +kernel
theorem dL_law_366 : decode cL_law 366 = .ok (.iconst 1, 1) := by decide +kernel
theorem dL_law_367 : decode cL_law 367 = .ok (.iadd, 1) := by decide +kernel
theorem dL_law_368 : decode cL_law 368 = .ok (.iaload, 1) := by decide +kernel
theorem dL_law_369 : decode cL_law 369 = .ok (.aload_n 0, 1) := by decide +kernel
theorem dL_law_370 : decode cL_law 370 = .ok (.iload_n 3, 1) := by decide +kernel
theorem dL_law_371 : decode cL_law 371 = .ok (.iconst 2, 1) := by decide +kernel
theorem dL_law_372 : decode cL_law 372 = .ok (.iadd, 1) := by decide +kernel
theorem dL_law_373 : decode cL_law 373 = .ok (.iaload, 1) := by decide +kernel
theorem dL_law_374 : decode cL_law 374 = .ok (.invokevirtual 49, 3) := by decide +kernel
theorem dL_law_377 : decode cL_law 377 = .ok (.if_icmp .eq 447, 3) := by decide +kernel
theorem dL_law_380 : decode cL_law 380 = .ok (.iconst 0, 1) := by decide +kernel
theorem dL_law_381 : decode cL_law 381 = .ok (.ireturn, 1) := by decide +kernel
theorem dL_law_382 : decode cL_law 382 = .ok (.aload_n 1, 1) := by decide +kernel
theorem dL_law_383 : decode cL_law 383 = .ok (.invokevirtual 50, 3) := by decide +kernel
theorem dL_law_386 : decode cL_law 386 = .ok (.aload_n 2, 1) := by decide +kernel
theorem dL_law_387 : decode cL_law 387 = .ok (.invokevirtual 53, 3) := by decide +kernel
theorem dL_law_390 : decode cL_law 390 = .ok (.if_icmp .eq 434, 3) := by decide +kernel
theorem dL_law_393 : decode cL_law 393 = .ok (.iconst 0, 1) := by decide +kernel
theorem dL_law_394 : decode cL_law 394 = .ok (.ireturn, 1) := by decide +kernel
theorem dL_law_395 : decode cL_law 395 = .ok (.aload_n 1, 1) := by decide +kernel
theorem dL_law_396 : decode cL_law 396 = .ok (.aload_n 0, 1) := by decide +kernel
theorem dL_law_397 : decode cL_law 397 = .ok (.iload_n 3, 1) := by decide +kernel
theorem dL_law_398 : decode cL_law 398 = .ok (.iconst 1, 1) := by decide +kernel
theorem dL_law_399 : decode cL_law 399 = .ok (.iadd, 1) := by decide +kernel
theorem dL_law_400 : decode cL_law 400 = .ok (.iaload, 1) := by decide +kernel
theorem dL_law_401 : decode cL_law 401 = .ok (.invokevirtual 54, 3) := by decide +kernel
theorem dL_law_404 : decode cL_law 404 = .ok (.aload_n 2, 1) := by decide +kernel
theorem dL_law_405 : decode cL_law 405 = .ok (.aload_n 0, 1) := by decide +kernel
theorem dL_law_406 : decode cL_law 406 = .ok (.iload_n 3, 1) := by decide +kernel
theorem dL_law_407 : decode cL_law 407 = .ok (.iconst 1, 1) := by decide +kernel
theorem dL_law_408 : decode cL_law 408 = .ok (.iadd, 1) := by decide +kernel
theorem dL_law_409 : decode cL_law 409 = .ok (.iaload, 1) := by decide +kernel
theorem dL_law_410 : decode cL_law 410 = .ok (.invokevirtual 58, 3) := by decide +kernel
theorem dL_law_413 : decode cL_law 413 = .ok (.if_icmp .eq 411, 3) := by decide +kernel
theorem dL_law_416 : decode cL_law 416 = .ok (.iconst 0, 1) := by decide +kernel
theorem dL_law_417 : decode cL_law 417 = .ok (.ireturn, 1) := by decide +kernel
theorem dL_law_418 : decode cL_law 418 = .ok (.aload_n 1, 1) := by decide +kernel
theorem dL_law_419 : decode cL_law 419 = .ok (.aload_n 0, 1) := by decide +kernel
theorem dL_law_420 : decode cL_law 420 = .ok (.iload_n 3, 1) := by decide +kernel
theorem dL_law_421 : decode cL_law 421 = .ok (.iconst 1, 1) := by decide +kernel
theorem dL_law_422 : decode cL_law 422 = .ok (.iadd, 1) := by decide +kernel
theorem dL_law_423 : decode cL_law 423 = .ok (.iaload, 1) := by decide +kernel
theorem dL_law_424 : decode cL_law 424 = .ok (.aload_n 0, 1) := by decide +kernel
theorem dL_law_425 : decode cL_law 425 = .ok (.iload_n 3, 1) := by decide +kernel
theorem dL_law_426 : decode cL_law 426 = .ok (.iconst 2, 1) := by decide +kernel
theorem dL_law_427 : decode cL_law 427 = .ok (.iadd, 1) := by decide +kernel
theorem dL_law_428 : decode cL_law 428 = .ok (.iaload, 1) := by decide +kernel
theorem dL_law_429 : decode cL_law 429 = .ok (.invokevirtual 59, 3) := by decide +kernel
theorem dL_law_432 : decode cL_law 432 = .ok (.aload_n 2, 1) := by decide +kernel
theorem dL_law_433 : decode cL_law 433 = .ok (.aload_n 0, 1) := by decide +kernel
theorem dL_law_434 : decode cL_law 434 = .ok (.iload_n 3, 1) := by decide +kernel
theorem dL_law_435 : decode cL_law 435 = .ok (.iconst 1, 1) := by decide +kernel
theorem dL_law_436 : decode cL_law 436 = .ok (.iadd, 1) := by decide +kernel
theorem dL_law_437 : decode cL_law 437 = .ok (.iaload, 1) := by decide +kernel
theorem dL_law_438 : decode cL_law 438 = .ok (.aload_n 0, 1) := by decide +kernel
theorem dL_law_439 : decode cL_law 439 = .ok (.iload_n 3, 1) := by decide +kernel
theorem dL_law_440 : decode cL_law 440 = .ok (.iconst 2, 1) := by decide +kernel
theorem dL_law_441 : decode cL_law 441 = .ok (.iadd, 1) := by decide +kernel
theorem dL_law_442 : decode cL_law 442 = .ok (.iaload, 1) := by decide +kernel
theorem dL_law_443 : decode cL_law 443 = .ok (.invokevirtual 62, 3) := by decide +kernel
theorem dL_law_446 : decode cL_law 446 = .ok (.if_icmp .eq 378, 3) := by decide +kernel
theorem dL_law_449 : decode cL_law 449 = .ok (.iconst 0, 1) := by decide +kernel
theorem dL_law_450 : decode cL_law 450 = .ok (.ireturn, 1) := by decide +kernel
theorem dL_law_451 : decode cL_law 451 = .ok (.aload_n 1, 1) := by decide +kernel
theorem dL_law_452 : decode cL_law 452 = .ok (.aload_n 0, 1) := by decide +kernel
theorem dL_law_453 : decode cL_law 453 = .ok (.iload_n 3, 1) := by decide +kernel
theorem dL_law_454 : decode cL_law 454 = .ok (.iconst 1, 1) := by decide +kernel
theorem dL_law_455 : decode cL_law 455 = .ok (.iadd, 1) := by decide +kernel
theorem dL_law_456 : decode cL_law 456 = .ok (.iaload, 1) := by decide +kernel
theorem dL_law_457 : decode cL_law 457 = .ok (.invokevirtual 63, 3) := by decide +kernel
theorem dL_law_460 : decode cL_law 460 = .ok (.aload_n 2, 1) := by decide +kernel
theorem dL_law_461 : decode cL_law 461 = .ok (.aload_n 0, 1) := by decide +kernel
theorem dL_law_462 : decode cL_law 462 = .ok (.iload_n 3, 1) := by decide +kernel
theorem dL_law_463 : decode cL_law 463 = .ok (.iconst 1, 1) := by decide +kernel
theorem dL_law_464 : decode cL_law 464 = .ok (.iadd, 1) := by decide +kernel
theorem dL_law_465 : decode cL_law 465 = .ok (.iaload, 1) := by decide +kernel
theorem dL_law_466 : decode cL_law 466 = .ok (.invokevirtual 66, 3) := by decide +kernel
theorem dL_law_469 : decode cL_law 469 = .ok (.if_icmp .eq 355, 3) := by decide +kernel
theorem dL_law_472 : decode cL_law 472 = .ok (.iconst 0, 1) := by decide +kernel
theorem dL_law_473 : decode cL_law 473 = .ok (.ireturn, 1) := by decide +kernel
theorem dL_law_474 : decode cL_law 474 = .ok (.aload_n 1, 1) := by decide +kernel
theorem dL_law_475 : decode cL_law 475 = .ok (.invokevirtual 67, 3) := by decide +kernel
theorem dL_law_478 : decode cL_law 478 = .ok (.aload_n 2, 1) := by decide +kernel
theorem dL_law_479 : decode cL_law 479 = .ok (.invokevirtual 70, 3) := by decide +kernel
theorem dL_law_482 : decode cL_law 482 = .ok (.if_icmp .eq 342, 3) := by decide +kernel
theorem dL_law_485 : decode cL_law 485 = .ok (.iconst 0, 1) := by decide +kernel
theorem dL_law_486 : decode cL_law 486 = .ok (.ireturn, 1) := by decide +kernel
theorem dL_law_487 : decode cL_law 487 = .ok (.aload_n 1, 1) := by decide +kernel
theorem dL_law_488 : decode cL_law 488 = .ok (.aload_n 0, 1) := by decide +kernel
theorem dL_law_489 : decode cL_law 489 = .ok (.iload_n 3, 1) := by decide +kernel
theorem dL_law_490 : decode cL_law 490 = .ok (.iconst 1, 1) := by decide +kernel
theorem dL_law_491 : decode cL_law 491 = .ok (.iadd, 1) := by decide +kernel
theorem dL_law_492 : decode cL_law 492 = .ok (.iaload, 1) := by decide +kernel
theorem dL_law_493 : decode cL_law 493 = .ok (.aload_n 0, 1) := by decide +kernel
theorem dL_law_494 : decode cL_law 494 = .ok (.iload_n 3, 1) := by decide +kernel
theorem dL_law_495 : decode cL_law 495 = .ok (.iconst 2, 1) := by decide +kernel
theorem dL_law_496 : decode cL_law 496 = .ok (.iadd, 1) := by decide +kernel
theorem dL_law_497 : decode cL_law 497 = .ok (.iaload, 1) := by decide +kernel
theorem dL_law_498 : decode cL_law 498 = .ok (.invokevirtual 71, 3) := by decide +kernel
theorem dL_law_501 : decode cL_law 501 = .ok (.aload_n 2, 1) := by decide +kernel
theorem dL_law_502 : decode cL_law 502 = .ok (.aload_n 0, 1) := by decide +kernel
theorem dL_law_503 : decode cL_law 503 = .ok (.iload_n 3, 1) := by decide +kernel
theorem dL_law_504 : decode cL_law 504 = .ok (.iconst 1, 1) := by decide +kernel
theorem dL_law_505 : decode cL_law 505 = .ok (.iadd, 1) := by decide +kernel
theorem dL_law_506 : decode cL_law 506 = .ok (.iaload, 1) := by decide +kernel
theorem dL_law_507 : decode cL_law 507 = .ok (.aload_n 0, 1) := by decide +kernel
theorem dL_law_508 : decode cL_law 508 = .ok (.iload_n 3, 1) := by decide +kernel
theorem dL_law_509 : decode cL_law 509 = .ok (.iconst 2, 1) := by decide +kernel
theorem dL_law_510 : decode cL_law 510 = .ok (.iadd, 1) := by decide +kernel
theorem dL_law_511 : decode cL_law 511 = .ok (.iaload, 1) := by decide +kernel
theorem dL_law_512 : decode cL_law 512 = .ok (.invokevirtual 74, 3) := by decide +kernel
theorem dL_law_515 : decode cL_law 515 = .ok (.if_icmp .eq 309, 3) := by decide +kernel
theorem dL_law_518 : decode cL_law 518 = .ok (.iconst 0, 1) := by decide +kernel
theorem dL_law_519 : decode cL_law 519 = .ok (.ireturn, 1) := by decide +kernel
theorem dL_law_520 : decode cL_law 520 = .ok (.aload_n 1, 1) := by decide +kernel
theorem dL_law_521 : decode cL_law 521 = .ok (.aload_n 0, 1) := by decide +kernel
theorem dL_law_522 : decode cL_law 522 = .ok (.iload_n 3, 1) := by decide +kernel
theorem dL_law_523 : decode cL_law 523 = .ok (.iconst 1, 1) := by decide +kernel
theorem dL_law_524 : decode cL_law 524 = .ok (.iadd, 1) := by decide +kernel
theorem dL_law_525 : decode cL_law 525 = .ok (.iaload, 1) := by decide +kernel
theorem dL_law_526 : decode cL_law 526 = .ok (.aload_n 0, 1) := by decide +kernel
theorem dL_law_527 : decode cL_law 527 = .ok (.iload_n 3, 1) := by decide +kernel
theorem dL_law_528 : decode cL_law 528 = .ok (.iconst 2, 1) := by decide +kernel
theorem dL_law_529 : decode cL_law 529 = .ok (.iadd, 1) := by decide +kernel
theorem dL_law_530 : decode cL_law 530 = .ok (.iaload, 1) := by decide +kernel
theorem dL_law_531 : decode cL_law 531 = .ok (.invokevirtual 75, 3) := by decide +kernel
theorem dL_law_534 : decode cL_law 534 = .ok (.aload_n 2, 1) := by decide +kernel
theorem dL_law_535 : decode cL_law 535 = .ok (.aload_n 0, 1) := by decide +kernel
theorem dL_law_536 : decode cL_law 536 = .ok (.iload_n 3, 1) := by decide +kernel
theorem dL_law_537 : decode cL_law 537 = .ok (.iconst 1, 1) := by decide +kernel
theorem dL_law_538 : decode cL_law 538 = .ok (.iadd, 1) := by decide +kernel
theorem dL_law_539 : decode cL_law 539 = .ok (.iaload, 1) := by decide +kernel
theorem dL_law_540 : decode cL_law 540 = .ok (.aload_n 0, 1) := by decide +kernel
theorem dL_law_541 : decode cL_law 541 = .ok (.iload_n 3, 1) := by decide +kernel
theorem dL_law_542 : decode cL_law 542 = .ok (.iconst 2, 1) := by decide +kernel
theorem dL_law_543 : decode cL_law 543 = .ok (.iadd, 1) := by decide +kernel
theorem dL_law_544 : decode cL_law 544 = .ok (.iaload, 1) := by decide +kernel
theorem dL_law_545 : decode cL_law 545 = .ok (.invokevirtual 78, 3) := by decide +kernel
theorem dL_law_548 : decode cL_law 548 = .ok (.if_icmp .eq 276, 3) := by decide +kernel
theorem dL_law_551 : decode cL_law 551 = .ok (.iconst 0, 1) := by decide +kernel
theorem dL_law_552 : decode cL_law 552 = .ok (.ireturn, 1) := by decide +kernel
theorem dL_law_553 : decode cL_law 553 = .ok (.aload_n 1, 1) := by decide +kernel
theorem dL_law_554 : decode cL_law 554 = .ok (.aload_n 0, 1) := by decide +kernel
theorem dL_law_555 : decode cL_law 555 = .ok (.iload_n 3, 1) := by decide +kernel
theorem dL_law_556 : decode cL_law 556 = .ok (.iconst 1, 1) := by decide +kernel
theorem dL_law_557 : decode cL_law 557 = .ok (.iadd, 1) := by decide +kernel
theorem dL_law_558 : decode cL_law 558 = .ok (.iaload, 1) := by decide +kernel
theorem dL_law_559 : decode cL_law 559 = .ok (.aload_n 0, 1) := by decide +kernel
theorem dL_law_560 : decode cL_law 560 = .ok (.iload_n 3, 1) := by decide +kernel
theorem dL_law_561 : decode cL_law 561 = .ok (.iconst 2, 1) := by decide +kernel
theorem dL_law_562 : decode cL_law 562 = .ok (.iadd, 1) := by decide +kernel
theorem dL_law_563 : decode cL_law 563 = .ok (.iaload, 1) := by decide +kernel
theorem dL_law_564 : decode cL_law 564 = .ok (.aload_n 0, 1) := by decide +kernel
theorem dL_law_565 : decode cL_law 565 = .ok (.iload_n 3, 1) := by decide +kernel
theorem dL_law_566 : decode cL_law 566 = .ok (.iconst 3, 1) := by decide +kernel
theorem dL_law_567 : decode cL_law 567 = .ok (.iadd, 1) := by decide +kernel
theorem dL_law_568 : decode cL_law 568 = .ok (.iaload, 1) := by decide +kernel
theorem dL_law_569 : decode cL_law 569 = .ok (.invokevirtual 79, 3) := by decide +kernel
theorem dL_law_572 : decode cL_law 572 = .ok (.aload_n 2, 1) := by decide +kernel
theorem dL_law_573 : decode cL_law 573 = .ok (.aload_n 0, 1) := by decide +kernel
theorem dL_law_574 : decode cL_law 574 = .ok (.iload_n 3, 1) := by decide +kernel
theorem dL_law_575 : decode cL_law 575 = .ok (.iconst 1, 1) := by decide +kernel
theorem dL_law_576 : decode cL_law 576 = .ok (.iadd, 1) := by decide +kernel
theorem dL_law_577 : decode cL_law 577 = .ok (.iaload, 1) := by decide +kernel
theorem dL_law_578 : decode cL_law 578 = .ok (.aload_n 0, 1) := by decide +kernel
theorem dL_law_579 : decode cL_law 579 = .ok (.iload_n 3, 1) := by decide +kernel
theorem dL_law_580 : decode cL_law 580 = .ok (.iconst 2, 1) := by decide +kernel
theorem dL_law_581 : decode cL_law 581 = .ok (.iadd, 1) := by decide +kernel
theorem dL_law_582 : decode cL_law 582 = .ok (.iaload, 1) := by decide +kernel
theorem dL_law_583 : decode cL_law 583 = .ok (.aload_n 0, 1) := by decide +kernel
theorem dL_law_584 : decode cL_law 584 = .ok (.iload_n 3, 1) := by decide +kernel
theorem dL_law_585 : decode cL_law 585 = .ok (.iconst 3, 1) := by decide +kernel
theorem dL_law_586 : decode cL_law 586 = .ok (.iadd, 1) := by decide +kernel
theorem dL_law_587 : decode cL_law 587 = .ok (.iaload, 1) := by decide +kernel
theorem dL_law_588 : decode cL_law 588 = .ok (.invokevirtual 83, 3) := by decide +kernel
theorem dL_law_591 : decode cL_law 591 = .ok (.if_icmp .eq 233, 3) := by decide +kernel
theorem dL_law_594 : decode cL_law 594 = .ok (.iconst 0, 1) := by decide +kernel
theorem dL_law_595 : decode cL_law 595 = .ok (.ireturn, 1) := by decide +kernel
theorem dL_law_596 : decode cL_law 596 = .ok (.aload_n 1, 1) := by decide +kernel
theorem dL_law_597 : decode cL_law 597 = .ok (.aload_n 0, 1) := by decide +kernel
theorem dL_law_598 : decode cL_law 598 = .ok (.iload_n 3, 1) := by decide +kernel
theorem dL_law_599 : decode cL_law 599 = .ok (.iconst 1, 1) := by decide +kernel
theorem dL_law_600 : decode cL_law 600 = .ok (.iadd, 1) := by decide +kernel
theorem dL_law_601 : decode cL_law 601 = .ok (.iaload, 1) := by decide +kernel
theorem dL_law_602 : decode cL_law 602 = .ok (.aload_n 0, 1) := by decide +kernel
theorem dL_law_603 : decode cL_law 603 = .ok (.iload_n 3, 1) := by decide +kernel
theorem dL_law_604 : decode cL_law 604 = .ok (.iconst 2, 1) := by decide +kernel
theorem dL_law_605 : decode cL_law 605 = .ok (.iadd, 1) := by decide +kernel
theorem dL_law_606 : decode cL_law 606 = .ok (.iaload, 1) := by decide +kernel
theorem dL_law_607 : decode cL_law 607 = .ok (.invokevirtual 84, 3) := by decide +kernel
theorem dL_law_610 : decode cL_law 610 = .ok (.aload_n 2, 1) := by decide +kernel
theorem dL_law_611 : decode cL_law 611 = .ok (.aload_n 0, 1) := by decide +kernel
theorem dL_law_612 : decode cL_law 612 = .ok (.iload_n 3, 1) := by decide +kernel
theorem dL_law_613 : decode cL_law 613 = .ok (.iconst 1, 1) := by decide +kernel
theorem dL_law_614 : decode cL_law 614 = .ok (.iadd, 1) := by decide +kernel
theorem dL_law_615 : decode cL_law 615 = .ok (.iaload, 1) := by decide +kernel
theorem dL_law_616 : decode cL_law 616 = .ok (.aload_n 0, 1) := by decide +kernel
theorem dL_law_617 : decode cL_law 617 = .ok (.iload_n 3, 1) := by decide +kernel
theorem dL_law_618 : decode cL_law 618 = .ok (.iconst 2, 1) := by decide +kernel
theorem dL_law_619 : decode cL_law 619 = .ok (.iadd, 1) := by decide +kernel
theorem dL_law_620 : decode cL_law 620 = .ok (.iaload, 1) := by decide +kernel
theorem dL_law_621 : decode cL_law 621 = .ok (.invokevirtual 87, 3) := by decide +kernel
theorem dL_law_624 : decode cL_law 624 = .ok (.if_icmp .eq 200, 3) := by decide +kernel
theorem dL_law_627 : decode cL_law 627 = .ok (.iconst 0, 1) := by decide +kernel
theorem dL_law_628 : decode cL_law 628 = .ok (.ireturn, 1) := by decide +kernel
theorem dL_law_629 : decode cL_law 629 = .ok (.aload_n 1, 1) := by decide +kernel
theorem dL_law_630 : decode cL_law 630 = .ok (.aload_n 0, 1) := by decide +kernel
theorem dL_law_631 : decode cL_law 631 = .ok (.iload_n 3, 1) := by decide +kernel
theorem dL_law_632 : decode cL_law 632 = .ok (.iconst 1, 1) := by decide +kernel
theorem dL_law_633 : decode cL_law 633 = .ok (.iadd, 1) := by decide +kernel
theorem dL_law_634 : decode cL_law 634 = .ok (.iaload, 1) := by decide +kernel
theorem dL_law_635 : decode cL_law 635 = .ok (.aload_n 0, 1) := by decide +kernel
theorem dL_law_636 : decode cL_law 636 = .ok (.iload_n 3, 1) := by decide +kernel
theorem dL_law_637 : decode cL_law 637 = .ok (.iconst 2, 1) := by decide +kernel
theorem dL_law_638 : decode cL_law 638 = .ok (.iadd, 1) := by decide +kernel
theorem dL_law_639 : decode cL_law 639 = .ok (.iaload, 1) := by decide +kernel
theorem dL_law_640 : decode cL_law 640 = .ok (.aload_n 0, 1) := by decide +kernel
theorem dL_law_641 : decode cL_law 641 = .ok (.iload_n 3, 1) := by decide +kernel
theorem dL_law_642 : decode cL_law 642 = .ok (.iconst 3, 1) := by decide +kernel
theorem dL_law_643 : decode cL_law 643 = .ok (.iadd, 1) := by decide +kernel
theorem dL_law_644 : decode cL_law 644 = .ok (.iaload, 1) := by decide +kernel
theorem dL_law_645 : decode cL_law 645 = .ok (.invokevirtual 88, 3) := by decide +kernel
theorem dL_law_648 : decode cL_law 648 = .ok (.aload_n 2, 1) := by decide +kernel
theorem dL_law_649 : decode cL_law 649 = .ok (.aload_n 0, 1) := by decide +kernel
theorem dL_law_650 : decode cL_law 650 = .ok (.iload_n 3, 1) := by decide +kernel
theorem dL_law_651 : decode cL_law 651 = .ok (.iconst 1, 1) := by decide +kernel
theorem dL_law_652 : decode cL_law 652 = .ok (.iadd, 1) := by decide +kernel
theorem dL_law_653 : decode cL_law 653 = .ok (.iaload, 1) := by decide +kernel
theorem dL_law_654 : decode cL_law 654 = .ok (.aload_n 0, 1) := by decide +kernel
theorem dL_law_655 : decode cL_law 655 = .ok (.iload_n 3, 1) := by decide +kernel
theorem dL_law_656 : decode cL_law 656 = .ok (.iconst 2, 1) := by decide +kernel
theorem dL_law_657 : decode cL_law 657 = .ok (.iadd, 1) := by decide +kernel
theorem dL_law_658 : decode cL_law 658 = .ok (.iaload, 1) := by decide +kernel
theorem dL_law_659 : decode cL_law 659 = .ok (.aload_n 0, 1) := by decide +kernel
theorem dL_law_660 : decode cL_law 660 = .ok (.iload_n 3, 1) := by decide +kernel
theorem dL_law_661 : decode cL_law 661 = .ok (.iconst 3, 1) := by decide +kernel
theorem dL_law_662 : decode cL_law 662 = .ok (.iadd, 1) := by decide +kernel
theorem dL_law_663 : decode cL_law 663 = .ok (.iaload, 1) := by decide +kernel
theorem dL_law_664 : decode cL_law 664 = .ok (.invokevirtual 91, 3) := by decide +kernel
theorem dL_law_667 : decode cL_law 667 = .ok (.if_icmp .eq 157, 3) := by decide +kernel
theorem dL_law_670 : decode cL_law 670 = .ok (.iconst 0, 1) := by decide +kernel
theorem dL_law_671 : decode cL_law 671 = .ok (.ireturn, 1) := by decide +kernel
theorem dL_law_672 : decode cL_law 672 = .ok (.aload_n 1, 1) := by decide +kernel
theorem dL_law_673 : decode cL_law 673 = .ok (.invokevirtual 92, 3) := by decide +kernel
theorem dL_law_676 : decode cL_law 676 = .ok (.aload_n 2, 1) := by decide +kernel
theorem dL_law_677 : decode cL_law 677 = .ok (.invokevirtual 95, 3) := by decide +kernel
theorem dL_law_680 : decode cL_law 680 = .ok (.if_icmp .eq 144, 3) := by decide +kernel
theorem dL_law_683 : decode cL_law 683 = .ok (.iconst 0, 1) := by decide +kernel
theorem dL_law_684 : decode cL_law 684 = .ok (.ireturn, 1) := by decide +kernel
theorem dL_law_685 : decode cL_law 685 = .ok (.aload_n 1, 1) := by decide +kernel
theorem dL_law_686 : decode cL_law 686 = .ok (.aload_n 0, 1) := by decide +kernel
theorem dL_law_687 : decode cL_law 687 = .ok (.iload_n 3, 1) := by decide +kernel
theorem dL_law_688 : decode cL_law 688 = .ok (.iconst 1, 1) := by decide +kernel
theorem dL_law_689 : decode cL_law 689 = .ok (.iadd, 1) := by decide +kernel
theorem dL_law_690 : decode cL_law 690 = .ok (.iaload, 1) := by decide +kernel
theorem dL_law_691 : decode cL_law 691 = .ok (.invokevirtual 96, 3) := by decide +kernel
theorem dL_law_694 : decode cL_law 694 = .ok (.aload_n 2, 1) := by decide +kernel
theorem dL_law_695 : decode cL_law 695 = .ok (.aload_n 0, 1) := by decide +kernel
theorem dL_law_696 : decode cL_law 696 = .ok (.iload_n 3, 1) := by decide +kernel
theorem dL_law_697 : decode cL_law 697 = .ok (.iconst 1, 1) := by decide +kernel
theorem dL_law_698 : decode cL_law 698 = .ok (.iadd, 1) := by decide +kernel
theorem dL_law_699 : decode cL_law 699 = .ok (.iaload, 1) := by decide +kernel
theorem dL_law_700 : decode cL_law 700 = .ok (.invokevirtual 99, 3) := by decide +kernel
theorem dL_law_703 : decode cL_law 703 = .ok (.if_icmp .eq 121, 3) := by decide +kernel
theorem dL_law_706 : decode cL_law 706 = .ok (.iconst 0, 1) := by decide +kernel
theorem dL_law_707 : decode cL_law 707 = .ok (.ireturn, 1) := by decide +kernel
theorem dL_law_708 : decode cL_law 708 = .ok (.aload_n 1, 1) := by decide +kernel
theorem dL_law_709 : decode cL_law 709 = .ok (.aload_n 0, 1) := by decide +kernel
theorem dL_law_710 : decode cL_law 710 = .ok (.iload_n 3, 1) := by decide +kernel
theorem dL_law_711 : decode cL_law 711 = .ok (.iconst 1, 1) := by decide +kernel
theorem dL_law_712 : decode cL_law 712 = .ok (.iadd, 1) := by decide +kernel
theorem dL_law_713 : decode cL_law 713 = .ok (.iaload, 1) := by decide +kernel
theorem dL_law_714 : decode cL_law 714 = .ok (.aload_n 0, 1) := by decide +kernel
theorem dL_law_715 : decode cL_law 715 = .ok (.iload_n 3, 1) := by decide +kernel
theorem dL_law_716 : decode cL_law 716 = .ok (.iconst 2, 1) := by decide +kernel
theorem dL_law_717 : decode cL_law 717 = .ok (.iadd, 1) := by decide +kernel
theorem dL_law_718 : decode cL_law 718 = .ok (.iaload, 1) := by decide +kernel
theorem dL_law_719 : decode cL_law 719 = .ok (.invokevirtual 100, 3) := by decide +kernel
theorem dL_law_722 : decode cL_law 722 = .ok (.aload_n 2, 1) := by decide +kernel
theorem dL_law_723 : decode cL_law 723 = .ok (.aload_n 0, 1) := by decide +kernel
theorem dL_law_724 : decode cL_law 724 = .ok (.iload_n 3, 1) := by decide +kernel
theorem dL_law_725 : decode cL_law 725 = .ok (.iconst 1, 1) := by decide +kernel
theorem dL_law_726 : decode cL_law 726 = .ok (.iadd, 1) := by decide +kernel
theorem dL_law_727 : decode cL_law 727 = .ok (.iaload, 1) := by decide +kernel
theorem dL_law_728 : decode cL_law 728 = .ok (.aload_n 0, 1) := by decide +kernel
theorem dL_law_729 : decode cL_law 729 = .ok (.iload_n 3, 1) := by decide +kernel
theorem dL_law_730 : decode cL_law 730 = .ok (.iconst 2, 1) := by decide +kernel
theorem dL_law_731 : decode cL_law 731 = .ok (.iadd, 1) := by decide +kernel
theorem dL_law_732 : decode cL_law 732 = .ok (.iaload, 1) := by decide +kernel
theorem dL_law_733 : decode cL_law 733 = .ok (.invokevirtual 103, 3) := by decide +kernel
theorem dL_law_736 : decode cL_law 736 = .ok (.if_icmp .eq 88, 3) := by decide +kernel
theorem dL_law_739 : decode cL_law 739 = .ok (.iconst 0, 1) := by decide +kernel
theorem dL_law_740 : decode cL_law 740 = .ok (.ireturn, 1) := by decide +kernel
theorem dL_law_741 : decode cL_law 741 = .ok (.aload_n 1, 1) := by decide +kernel
theorem dL_law_742 : decode cL_law 742 = .ok (.aload_n 0, 1) := by decide +kernel
theorem dL_law_743 : decode cL_law 743 = .ok (.iload_n 3, 1) := by decide +kernel
theorem dL_law_744 : decode cL_law 744 = .ok (.iconst 1, 1) := by decide +kernel
theorem dL_law_745 : decode cL_law 745 = .ok (.iadd, 1) := by decide +kernel
theorem dL_law_746 : decode cL_law 746 = .ok (.iaload, 1) := by decide +kernel
theorem dL_law_747 : decode cL_law 747 = .ok (.invokevirtual 104, 3) := by decide +kernel
theorem dL_law_750 : decode cL_law 750 = .ok (.aload_n 2, 1) := by decide +kernel
theorem dL_law_751 : decode cL_law 751 = .ok (.aload_n 0, 1) := by decide +kernel
theorem dL_law_752 : decode cL_law 752 = .ok (.iload_n 3, 1) := by decide +kernel
theorem dL_law_753 : decode cL_law 753 = .ok (.iconst 1, 1) := by decide +kernel
theorem dL_law_754 : decode cL_law 754 = .ok (.iadd, 1) := by decide +kernel
theorem dL_law_755 : decode cL_law 755 = .ok (.iaload, 1) := by decide +kernel
theorem dL_law_756 : decode cL_law 756 = .ok (.invokevirtual 107, 3) := by decide +kernel
theorem dL_law_759 : decode cL_law 759 = .ok (.if_icmp .eq 65, 3) := by decide +kernel
theorem dL_law_762 : decode cL_law 762 = .ok (.iconst 0, 1) := by decide +kernel
theorem dL_law_763 : decode cL_law 763 = .ok (.ireturn, 1) := by decide +kernel
theorem dL_law_764 : decode cL_law 764 = .ok (.aload_n 1, 1) := by decide +kernel
theorem dL_law_765 : decode cL_law 765 = .ok (.aload_n 0, 1) := by decide +kernel
theorem dL_law_766 : decode cL_law 766 = .ok (.iload_n 3, 1) := by decide +kernel
theorem dL_law_767 : decode cL_law 767 = .ok (.iconst 1, 1) := by decide +kernel
theorem dL_law_768 : decode cL_law 768 = .ok (.iadd, 1) := by decide +kernel
theorem dL_law_769 : decode cL_law 769 = .ok (.iaload, 1) := by decide +kernel
theorem dL_law_770 : decode cL_law 770 = .ok (.invokevirtual 108, 3) := by decide +kernel
theorem dL_law_773 : decode cL_law 773 = .ok (.aload_n 2, 1) := by decide +kernel
theorem dL_law_774 : decode cL_law 774 = .ok (.aload_n 0, 1) := by decide +kernel
theorem dL_law_775 : decode cL_law 775 = .ok (.iload_n 3, 1) := by decide +kernel
theorem dL_law_776 : decode cL_law 776 = .ok (.iconst 1, 1) := by decide +kernel
theorem dL_law_777 : decode cL_law 777 = .ok (.iadd, 1) := by decide +kernel
theorem dL_law_778 : decode cL_law 778 = .ok (.iaload, 1) := by decide +kernel
theorem dL_law_779 : decode cL_law 779 = .ok (.invokevirtual 111, 3) := by decide +kernel
theorem dL_law_782 : decode cL_law 782 = .ok (.if_icmp .eq 42, 3) := by decide +kernel
theorem dL_law_785 : decode cL_law 785 = .ok (.iconst 0, 1) := by decide +kernel
theorem dL_law_786 : decode cL_law 786 = .ok (.ireturn, 1) := by decide +kernel
theorem dL_law_787 : decode cL_law 787 = .ok (.aload_n 1, 1) := by decide +kernel
theorem dL_law_788 : decode cL_law 788 = .ok (.aload_n 0, 1) := by decide +kernel
theorem dL_law_789 : decode cL_law 789 = .ok (.iload_n 3, 1) := by decide +kernel
theorem dL_law_790 : decode cL_law 790 = .ok (.iconst 1, 1) := by decide +kernel
theorem dL_law_791 : decode cL_law 791 = .ok (.iadd, 1) := by decide +kernel
theorem dL_law_792 : decode cL_law 792 = .ok (.iaload, 1) := by decide +kernel
theorem dL_law_793 : decode cL_law 793 = .ok (.invokevirtual 112, 3) := by decide +kernel
theorem dL_law_796 : decode cL_law 796 = .ok (.aload_n 2, 1) := by decide +kernel
theorem dL_law_797 : decode cL_law 797 = .ok (.aload_n 0, 1) := by decide +kernel
theorem dL_law_798 : decode cL_law 798 = .ok (.iload_n 3, 1) := by decide +kernel
theorem dL_law_799 : decode cL_law 799 = .ok (.iconst 1, 1) := by decide +kernel
theorem dL_law_800 : decode cL_law 800 = .ok (.iadd, 1) := by decide +kernel
theorem dL_law_801 : decode cL_law 801 = .ok (.iaload, 1) := by decide +kernel
theorem dL_law_802 : decode cL_law 802 = .ok (.invokevirtual 115, 3) := by decide +kernel
theorem dL_law_805 : decode cL_law 805 = .ok (.if_icmp .eq 19, 3) := by decide +kernel
theorem dL_law_808 : decode cL_law 808 = .ok (.iconst 0, 1) := by decide +kernel
theorem dL_law_809 : decode cL_law 809 = .ok (.ireturn, 1) := by decide +kernel
theorem dL_law_810 : decode cL_law 810 = .ok (.aload_n 1, 1) := by decide +kernel
theorem dL_law_811 : decode cL_law 811 = .ok (.invokevirtual 116, 3) := by decide +kernel
theorem dL_law_814 : decode cL_law 814 = .ok (.aload_n 2, 1) := by decide +kernel
theorem dL_law_815 : decode cL_law 815 = .ok (.invokevirtual 120, 3) := by decide +kernel
theorem dL_law_818 : decode cL_law 818 = .ok (.lcmp, 1) := by decide +kernel
theorem dL_law_819 : decode cL_law 819 = .ok (.ifCond .eq 5, 3) := by decide +kernel
theorem dL_law_822 : decode cL_law 822 = .ok (.iconst 0, 1) := by decide +kernel
theorem dL_law_823 : decode cL_law 823 = .ok (.ireturn, 1) := by decide +kernel
theorem dL_law_824 : decode cL_law 824 = .ok (.iinc 3 4, 3) := by decide +kernel
theorem dL_law_827 : decode cL_law 827 = .ok (.goto (-809), 3) := by decide +kernel
theorem dL_law_830 : decode cL_law 830 = .ok (.iconst 1, 1) := by decide +kernel
theorem dL_law_831 : decode cL_law 831 = .ok (.ireturn, 1) := by decide +kernel
end
