section
-- ===== PART A: goes FIRST, ahead of the names: the tables' words, and 'selects' of the private methods out of them =====
/-- a private method of a class that the tables say can be made, by its rows of tables_1 -/
def lw_okq (q : MethodName × Nat) : Prop := (q.1.cls ≠ "java/lang/invoke/MethodHandle" ∧ q.1.cls ≠ "java/lang/invoke/VarHandle") ∧ Cond.instantiable q.1.cls q.2 ∈ tables_1 ∧ Cond.privateMethod q.1 ∈ tables_1 ∧ Cond.instanceMethod q.1 ∈ tables_1
theorem lw_p0 : lw_okq (⟨"ThursdayRungs$Page", "fits", "(I)Z"⟩, 2) := ⟨⟨by decide +kernel, by decide +kernel⟩, List.mem_of_getElem? (i := 24) (by decide +kernel), List.mem_of_getElem? (i := 144) (by decide +kernel), List.mem_of_getElem? (i := 145) (by decide +kernel)⟩
theorem lw_p1 : lw_okq (⟨"ThursdayRungs$School", "explainsHeard", "(II)Z"⟩, 11) := ⟨⟨by decide +kernel, by decide +kernel⟩, List.mem_of_getElem? (i := 40) (by decide +kernel), List.mem_of_getElem? (i := 282) (by decide +kernel), List.mem_of_getElem? (i := 283) (by decide +kernel)⟩
theorem lw_p2 : lw_okq (⟨"ThursdayRungs", "refusalOf", "(II)I"⟩, 6) := ⟨⟨by decide +kernel, by decide +kernel⟩, List.mem_of_getElem? (i := 16) (by decide +kernel), List.mem_of_getElem? (i := 309) (by decide +kernel), List.mem_of_getElem? (i := 310) (by decide +kernel)⟩
theorem lw_p3 : lw_okq (⟨"ThursdayRungs", "withChild", "(JI)J"⟩, 6) := ⟨⟨by decide +kernel, by decide +kernel⟩, List.mem_of_getElem? (i := 16) (by decide +kernel), List.mem_of_getElem? (i := 466) (by decide +kernel), List.mem_of_getElem? (i := 467) (by decide +kernel)⟩
theorem lw_p4 : lw_okq (⟨"ThursdayRungsModel", "faultOf", "()I"⟩, 20) := ⟨⟨by decide +kernel, by decide +kernel⟩, List.mem_of_getElem? (i := 480) (by decide +kernel), List.mem_of_getElem? (i := 563) (by decide +kernel), List.mem_of_getElem? (i := 564) (by decide +kernel)⟩
theorem lw_p5 : lw_okq (⟨"ThursdayRungsModel", "isChild", "(I)Z"⟩, 20) := ⟨⟨by decide +kernel, by decide +kernel⟩, List.mem_of_getElem? (i := 480) (by decide +kernel), List.mem_of_getElem? (i := 583) (by decide +kernel), List.mem_of_getElem? (i := 584) (by decide +kernel)⟩
theorem lw_p6 : lw_okq (⟨"ThursdayRungsModel", "tellChild", "(II)I"⟩, 20) := ⟨⟨by decide +kernel, by decide +kernel⟩, List.mem_of_getElem? (i := 480) (by decide +kernel), List.mem_of_getElem? (i := 587) (by decide +kernel), List.mem_of_getElem? (i := 588) (by decide +kernel)⟩
theorem lw_p7 : lw_okq (⟨"ThursdayRungsModel", "wouldTeach", "(I)I"⟩, 20) := ⟨⟨by decide +kernel, by decide +kernel⟩, List.mem_of_getElem? (i := 480) (by decide +kernel), List.mem_of_getElem? (i := 591) (by decide +kernel), List.mem_of_getElem? (i := 592) (by decide +kernel)⟩
theorem lw_p8 : lw_okq (⟨"ThursdayRungsModel", "isIll", "(I)Z"⟩, 20) := ⟨⟨by decide +kernel, by decide +kernel⟩, List.mem_of_getElem? (i := 480) (by decide +kernel), List.mem_of_getElem? (i := 595) (by decide +kernel), List.mem_of_getElem? (i := 596) (by decide +kernel)⟩
theorem lw_p9 : lw_okq (⟨"ThursdayRungsModel", "teachesOf", "(II)I"⟩, 20) := ⟨⟨by decide +kernel, by decide +kernel⟩, List.mem_of_getElem? (i := 480) (by decide +kernel), List.mem_of_getElem? (i := 599) (by decide +kernel), List.mem_of_getElem? (i := 600) (by decide +kernel)⟩
theorem lw_p10 : lw_okq (⟨"ThursdayRungsModel", "slipsOf", "(I)I"⟩, 20) := ⟨⟨by decide +kernel, by decide +kernel⟩, List.mem_of_getElem? (i := 480) (by decide +kernel), List.mem_of_getElem? (i := 606) (by decide +kernel), List.mem_of_getElem? (i := 607) (by decide +kernel)⟩
theorem lw_p11 : lw_okq (⟨"ThursdayRungsModel", "askOf", "(I)I"⟩, 20) := ⟨⟨by decide +kernel, by decide +kernel⟩, List.mem_of_getElem? (i := 480) (by decide +kernel), List.mem_of_getElem? (i := 610) (by decide +kernel), List.mem_of_getElem? (i := 611) (by decide +kernel)⟩
theorem lw_p12 : lw_okq (⟨"ThursdayRungsModel", "lacks", "()Z"⟩, 20) := ⟨⟨by decide +kernel, by decide +kernel⟩, List.mem_of_getElem? (i := 480) (by decide +kernel), List.mem_of_getElem? (i := 644) (by decide +kernel), List.mem_of_getElem? (i := 645) (by decide +kernel)⟩
theorem lw_p13 : lw_okq (⟨"ThursdayRungsModel", "goesUp", "()I"⟩, 20) := ⟨⟨by decide +kernel, by decide +kernel⟩, List.mem_of_getElem? (i := 480) (by decide +kernel), List.mem_of_getElem? (i := 648) (by decide +kernel), List.mem_of_getElem? (i := 649) (by decide +kernel)⟩
theorem lw_p14 : lw_okq (⟨"ThursdayRungsModel", "arrivesOf", "(II)I"⟩, 20) := ⟨⟨by decide +kernel, by decide +kernel⟩, List.mem_of_getElem? (i := 480) (by decide +kernel), List.mem_of_getElem? (i := 656) (by decide +kernel), List.mem_of_getElem? (i := 657) (by decide +kernel)⟩
theorem lw_p15 : lw_okq (⟨"ThursdayRungsModel", "fromOf", "(II)I"⟩, 20) := ⟨⟨by decide +kernel, by decide +kernel⟩, List.mem_of_getElem? (i := 480) (by decide +kernel), List.mem_of_getElem? (i := 664) (by decide +kernel), List.mem_of_getElem? (i := 665) (by decide +kernel)⟩
def lw_privs_1 : List (MethodName × Nat) := [(⟨"ThursdayRungs$Page", "fits", "(I)Z"⟩, 2), (⟨"ThursdayRungs$School", "explainsHeard", "(II)Z"⟩, 11), (⟨"ThursdayRungs", "refusalOf", "(II)I"⟩, 6), (⟨"ThursdayRungs", "withChild", "(JI)J"⟩, 6), (⟨"ThursdayRungsModel", "faultOf", "()I"⟩, 20), (⟨"ThursdayRungsModel", "isChild", "(I)Z"⟩, 20), (⟨"ThursdayRungsModel", "tellChild", "(II)I"⟩, 20), (⟨"ThursdayRungsModel", "wouldTeach", "(I)I"⟩, 20), (⟨"ThursdayRungsModel", "isIll", "(I)Z"⟩, 20), (⟨"ThursdayRungsModel", "teachesOf", "(II)I"⟩, 20), (⟨"ThursdayRungsModel", "slipsOf", "(I)I"⟩, 20), (⟨"ThursdayRungsModel", "askOf", "(I)I"⟩, 20), (⟨"ThursdayRungsModel", "lacks", "()Z"⟩, 20), (⟨"ThursdayRungsModel", "goesUp", "()I"⟩, 20), (⟨"ThursdayRungsModel", "arrivesOf", "(II)I"⟩, 20), (⟨"ThursdayRungsModel", "fromOf", "(II)I"⟩, 20)]
theorem lw_r1 : ∀ q ∈ lw_privs_1, lw_okq q := List.forall_mem_cons.mpr ⟨lw_p0, List.forall_mem_cons.mpr ⟨lw_p1, List.forall_mem_cons.mpr ⟨lw_p2, List.forall_mem_cons.mpr ⟨lw_p3, List.forall_mem_cons.mpr ⟨lw_p4, List.forall_mem_cons.mpr ⟨lw_p5, List.forall_mem_cons.mpr ⟨lw_p6, List.forall_mem_cons.mpr ⟨lw_p7, List.forall_mem_cons.mpr ⟨lw_p8, List.forall_mem_cons.mpr ⟨lw_p9, List.forall_mem_cons.mpr ⟨lw_p10, List.forall_mem_cons.mpr ⟨lw_p11, List.forall_mem_cons.mpr ⟨lw_p12, List.forall_mem_cons.mpr ⟨lw_p13, List.forall_mem_cons.mpr ⟨lw_p14, List.forall_mem_cons.mpr ⟨lw_p15, fun _ h => absurd h List.not_mem_nil⟩⟩⟩⟩⟩⟩⟩⟩⟩⟩⟩⟩⟩⟩⟩⟩
theorem lw_p16 : lw_okq (⟨"ThursdayRungsModel", "soonOf", "()I"⟩, 20) := ⟨⟨by decide +kernel, by decide +kernel⟩, List.mem_of_getElem? (i := 480) (by decide +kernel), List.mem_of_getElem? (i := 672) (by decide +kernel), List.mem_of_getElem? (i := 673) (by decide +kernel)⟩
theorem lw_p17 : lw_okq (⟨"ThursdayRungsModel", "cureOf", "(I)I"⟩, 20) := ⟨⟨by decide +kernel, by decide +kernel⟩, List.mem_of_getElem? (i := 480) (by decide +kernel), List.mem_of_getElem? (i := 680) (by decide +kernel), List.mem_of_getElem? (i := 681) (by decide +kernel)⟩
theorem lw_p18 : lw_okq (⟨"ThursdayRungsModel", "asTheyAre", "()I"⟩, 20) := ⟨⟨by decide +kernel, by decide +kernel⟩, List.mem_of_getElem? (i := 480) (by decide +kernel), List.mem_of_getElem? (i := 684) (by decide +kernel), List.mem_of_getElem? (i := 685) (by decide +kernel)⟩
theorem lw_p19 : lw_okq (⟨"ThursdayRungsModel", "draw", "(I)I"⟩, 20) := ⟨⟨by decide +kernel, by decide +kernel⟩, List.mem_of_getElem? (i := 480) (by decide +kernel), List.mem_of_getElem? (i := 705) (by decide +kernel), List.mem_of_getElem? (i := 706) (by decide +kernel)⟩
theorem lw_p20 : lw_okq (⟨"ThursdayRungsModel", "countOf", "(I)I"⟩, 20) := ⟨⟨by decide +kernel, by decide +kernel⟩, List.mem_of_getElem? (i := 480) (by decide +kernel), List.mem_of_getElem? (i := 725) (by decide +kernel), List.mem_of_getElem? (i := 726) (by decide +kernel)⟩
theorem lw_p21 : lw_okq (⟨"ThursdayRungsModel", "knowing", "()I"⟩, 20) := ⟨⟨by decide +kernel, by decide +kernel⟩, List.mem_of_getElem? (i := 480) (by decide +kernel), List.mem_of_getElem? (i := 729) (by decide +kernel), List.mem_of_getElem? (i := 730) (by decide +kernel)⟩
theorem lw_p22 : lw_okq (⟨"ThursdayRungsModel", "unlike", "()I"⟩, 20) := ⟨⟨by decide +kernel, by decide +kernel⟩, List.mem_of_getElem? (i := 480) (by decide +kernel), List.mem_of_getElem? (i := 733) (by decide +kernel), List.mem_of_getElem? (i := 734) (by decide +kernel)⟩
theorem lw_p23 : lw_okq (⟨"ThursdayRungsModel", "illMany", "()I"⟩, 20) := ⟨⟨by decide +kernel, by decide +kernel⟩, List.mem_of_getElem? (i := 480) (by decide +kernel), List.mem_of_getElem? (i := 737) (by decide +kernel), List.mem_of_getElem? (i := 738) (by decide +kernel)⟩
theorem lw_p24 : lw_okq (⟨"ThursdayRungsModel", "sayChild", "(I)V"⟩, 20) := ⟨⟨by decide +kernel, by decide +kernel⟩, List.mem_of_getElem? (i := 480) (by decide +kernel), List.mem_of_getElem? (i := 746) (by decide +kernel), List.mem_of_getElem? (i := 747) (by decide +kernel)⟩
theorem lw_p25 : lw_okq (⟨"ThursdayRungsModel", "say", "(J)V"⟩, 20) := ⟨⟨by decide +kernel, by decide +kernel⟩, List.mem_of_getElem? (i := 480) (by decide +kernel), List.mem_of_getElem? (i := 750) (by decide +kernel), List.mem_of_getElem? (i := 751) (by decide +kernel)⟩
def lw_privs_2 : List (MethodName × Nat) := [(⟨"ThursdayRungsModel", "soonOf", "()I"⟩, 20), (⟨"ThursdayRungsModel", "cureOf", "(I)I"⟩, 20), (⟨"ThursdayRungsModel", "asTheyAre", "()I"⟩, 20), (⟨"ThursdayRungsModel", "draw", "(I)I"⟩, 20), (⟨"ThursdayRungsModel", "countOf", "(I)I"⟩, 20), (⟨"ThursdayRungsModel", "knowing", "()I"⟩, 20), (⟨"ThursdayRungsModel", "unlike", "()I"⟩, 20), (⟨"ThursdayRungsModel", "illMany", "()I"⟩, 20), (⟨"ThursdayRungsModel", "sayChild", "(I)V"⟩, 20), (⟨"ThursdayRungsModel", "say", "(J)V"⟩, 20)]
theorem lw_r2 : ∀ q ∈ lw_privs_2, lw_okq q := List.forall_mem_cons.mpr ⟨lw_p16, List.forall_mem_cons.mpr ⟨lw_p17, List.forall_mem_cons.mpr ⟨lw_p18, List.forall_mem_cons.mpr ⟨lw_p19, List.forall_mem_cons.mpr ⟨lw_p20, List.forall_mem_cons.mpr ⟨lw_p21, List.forall_mem_cons.mpr ⟨lw_p22, List.forall_mem_cons.mpr ⟨lw_p23, List.forall_mem_cons.mpr ⟨lw_p24, List.forall_mem_cons.mpr ⟨lw_p25, fun _ h => absurd h List.not_mem_nil⟩⟩⟩⟩⟩⟩⟩⟩⟩⟩
def lw_privs : List (MethodName × Nat) := lw_privs_1 ++ (lw_privs_2)
def lw_tbl : List Cond := k2_sels lw_privs ++ tables_1
theorem lw_privs_ok : ∀ q ∈ lw_privs, lw_okq q := by
  show ∀ q ∈ lw_privs_1 ++ (lw_privs_2), lw_okq q
  exact List.forall_mem_append.mpr ⟨lw_r1, lw_r2⟩
end
section
/-! ===== BEGIN words of one list among another's, by their places ===== -/
theorem goodIn_r {big : List Cond} (ws : List Cond) (ps : List Nat) (hp : ws = ps.filterMap (fun i => big[i]?)) (h : ws.all goodWord = true) : GoodIn big ws := by
  intro w hw
  have h1 := List.all_eq_true.mp h w hw
  rw [hp] at hw
  obtain ⟨i, -, hi⟩ := List.mem_filterMap.mp hw
  have hm : w ∈ big := by first | exact List.mem_of_getElem? hi | exact List.getElem?_mem hi
  exact ⟨hm, good_of_word h1⟩
theorem goodIn_app {big a b : List Cond} (ha : GoodIn big a) (hb : GoodIn big b) : GoodIn big (a ++ b) := fun w h => (List.mem_append.mp h).elim (ha w) (hb w)
theorem goodIn_ca {big a b : List Cond} {c : Cond} (ha : GoodIn big (c :: a)) (hb : GoodIn big b) : GoodIn big (c :: (a ++ b)) := fun w h => (List.mem_cons.mp h).elim (fun e => ha w (List.mem_cons.mpr (Or.inl e))) (fun h => (List.mem_append.mp h).elim (fun h => ha w (List.mem_cons.mpr (Or.inr h))) (hb w))
theorem goodIn_sub {big ws : List Cond} (hm : ∀ w ∈ ws, w ∈ big) (h : ws.all goodWord = true) : GoodIn big ws := fun w hw => ⟨hm w hw, good_of_word (List.all_eq_true.mp h w hw)⟩
/-! ===== END ===== -/

/-! ===== BEGIN printed: names, fields, word lists, decode rows ===== -/
def RX0 : String := "ThursdayRungs$Draws"
def TX0 : u_T := fun k => match k with
  | _ => ("ThursdayRungs$Draws", "seed", "J", false)
def tyX0 : Nat → FieldType := fun k => match k with
  | _ => .long
abbrev wsX00 : List Cond := u_ws RX0 TX0 1
theorem nmX0 : ∀ a, a < 1 → ∀ b, b < 1 → a ≠ b → (TX0 a).2.1 ≠ (TX0 b).2.1 := by decide +kernel
theorem tyX0_ok : ∀ k, k < 1 → parseFieldDescriptor (TX0 k).2.2.1 = some (tyX0 k) := by decide +kernel
abbrev cX0_init : ByteArray := prog_2_method_1_code
def yX0_init : MethodName := ⟨RX0, "<init>", "()V"⟩
abbrev cX0_next : ByteArray := prog_2_method_2_code
def yX0_next : MethodName := ⟨RX0, "next", "(I)I"⟩
def RX1 : String := "ThursdayRungs$Kind"
def TX1 : u_T := fun k => match k with
  | _ => ("", "", "", false)
def tyX1 : Nat → FieldType := fun k => match k with
  | _ => .int
abbrev wsX10 : List Cond := u_ws RX1 TX1 0
theorem nmX1 : ∀ a, a < 0 → ∀ b, b < 0 → a ≠ b → (TX1 a).2.1 ≠ (TX1 b).2.1 := by decide +kernel
theorem tyX1_ok : ∀ k, k < 0 → parseFieldDescriptor (TX1 k).2.2.1 = some (tyX1 k) := by decide +kernel
abbrev cX1_isA : ByteArray := prog_3_method_2_code
def yX1_isA : MethodName := ⟨RX1, "isA", "(II)Z"⟩
abbrev cX1_passesOn : ByteArray := prog_3_method_3_code
def yX1_passesOn : MethodName := ⟨RX1, "passesOn", "(III)I"⟩
def RX2 : String := "ThursdayRungs$Page"
def TX2 : u_T := fun k => match k with
  | 0 => ("ThursdayRungs$Page", "codes", "[I", true)
  | _ => ("ThursdayRungs$Page", "size", "I", false)
def tyX2 : Nat → FieldType := fun k => match k with
  | 0 => .array .int
  | _ => .int
abbrev wsX20 : List Cond := u_ws RX2 TX2 2
theorem nmX2 : ∀ a, a < 2 → ∀ b, b < 2 → a ≠ b → (TX2 a).2.1 ≠ (TX2 b).2.1 := by decide +kernel
theorem tyX2_ok : ∀ k, k < 2 → parseFieldDescriptor (TX2 k).2.2.1 = some (tyX2 k) := by decide +kernel
abbrev cX2_init : ByteArray := prog_4_method_1_code
def yX2_init : MethodName := ⟨RX2, "<init>", "()V"⟩
abbrev cX2_isFull : ByteArray := prog_4_method_2_code
def yX2_isFull : MethodName := ⟨RX2, "isFull", "()Z"⟩
abbrev cX2_add : ByteArray := prog_4_method_3_code
def yX2_add : MethodName := ⟨RX2, "add", "(I)V"⟩
abbrev cX2_firstMisfit : ByteArray := prog_4_method_4_code
def yX2_firstMisfit : MethodName := ⟨RX2, "firstMisfit", "()I"⟩
abbrev cX2_isSchool : ByteArray := prog_4_method_5_code
def yX2_isSchool : MethodName := ⟨RX2, "isSchool", "()Z"⟩
abbrev cX2_children : ByteArray := prog_4_method_6_code
def yX2_children : MethodName := ⟨RX2, "children", "()I"⟩
abbrev cX2_kindOf : ByteArray := prog_4_method_7_code
def yX2_kindOf : MethodName := ⟨RX2, "kindOf", "(I)I"⟩
abbrev cX2_slipOf : ByteArray := prog_4_method_8_code
def yX2_slipOf : MethodName := ⟨RX2, "slipOf", "(I)I"⟩
abbrev cX2_fits : ByteArray := prog_4_method_9_code
def yX2_fits : MethodName := ⟨RX2, "fits", "(I)Z"⟩
def RX3 : String := "ThursdayRungs$School"
def TX3 : u_T := fun k => match k with
  | 0 => ("ThursdayRungs$School", "kinds", "[I", true)
  | 1 => ("ThursdayRungs$School", "slips", "[I", true)
  | 2 => ("ThursdayRungs$School", "known", "[I", true)
  | 3 => ("ThursdayRungs$School", "ill", "[Z", true)
  | 4 => ("ThursdayRungs$School", "heardChild", "[I", true)
  | 5 => ("ThursdayRungs$School", "heardKnew", "[I", true)
  | 6 => ("ThursdayRungs$School", "heardTaught", "[I", true)
  | 7 => ("ThursdayRungs$School", "size", "I", false)
  | 8 => ("ThursdayRungs$School", "heard", "I", false)
  | 9 => ("ThursdayRungs$School", "thursdays", "I", false)
  | _ => ("ThursdayRungs$School", "timesTaught", "I", false)
def tyX3 : Nat → FieldType := fun k => match k with
  | 0 => .array .int
  | 1 => .array .int
  | 2 => .array .int
  | 3 => .array .boolean
  | 4 => .array .int
  | 5 => .array .int
  | 6 => .array .int
  | 7 => .int
  | 8 => .int
  | 9 => .int
  | _ => .int
abbrev wsX30 : List Cond := u_ws RX3 TX3 11
theorem nmX3 : ∀ a, a < 11 → ∀ b, b < 11 → a ≠ b → (TX3 a).2.1 ≠ (TX3 b).2.1 := by decide +kernel
theorem tyX3_ok : ∀ k, k < 11 → parseFieldDescriptor (TX3 k).2.2.1 = some (tyX3 k) := by decide +kernel
abbrev cX3_init : ByteArray := prog_5_method_1_code
def yX3_init : MethodName := ⟨RX3, "<init>", "()V"⟩
abbrev cX3_isNone : ByteArray := prog_5_method_2_code
def yX3_isNone : MethodName := ⟨RX3, "isNone", "()Z"⟩
abbrev cX3_has : ByteArray := prog_5_method_3_code
def yX3_has : MethodName := ⟨RX3, "has", "(I)Z"⟩
abbrev cX3_top : ByteArray := prog_5_method_4_code
def yX3_top : MethodName := ⟨RX3, "top", "()I"⟩
abbrev cX3_readFrom : ByteArray := prog_5_method_5_code
def yX3_readFrom : MethodName := ⟨RX3, "readFrom", "(LThursdayRungs$Page;)V"⟩
abbrev cX3_copyFrom : ByteArray := prog_5_method_6_code
def yX3_copyFrom : MethodName := ⟨RX3, "copyFrom", "(LThursdayRungs$School;)V"⟩
abbrev cX3_taughtNowBy : ByteArray := prog_5_method_7_code
def yX3_taughtNowBy : MethodName := ⟨RX3, "taughtNowBy", "(I)I"⟩
abbrev cX3_isTaughtNext : ByteArray := prog_5_method_8_code
def yX3_isTaughtNext : MethodName := ⟨RX3, "isTaughtNext", "(I)Z"⟩
abbrev cX3_holdThursday : ByteArray := prog_5_method_9_code
def yX3_holdThursday : MethodName := ⟨RX3, "holdThursday", "()I"⟩
abbrev cX3_beginAnew : ByteArray := prog_5_method_10_code
def yX3_beginAnew : MethodName := ⟨RX3, "beginAnew", "(LThursdayRungs$Draws;)V"⟩
abbrev cX3_atTop : ByteArray := prog_5_method_11_code
def yX3_atTop : MethodName := ⟨RX3, "atTop", "(III)I"⟩
abbrev cX3_sourcesOf : ByteArray := prog_5_method_12_code
def yX3_sourcesOf : MethodName := ⟨RX3, "sourcesOf", "(II)I"⟩
abbrev cX3_unchangedAtTop : ByteArray := prog_5_method_13_code
def yX3_unchangedAtTop : MethodName := ⟨RX3, "unchangedAtTop", "(I)I"⟩
abbrev cX3_bestToCure : ByteArray := prog_5_method_14_code
def yX3_bestToCure : MethodName := ⟨RX3, "bestToCure", "()I"⟩
abbrev cX3_thursdaysToTop : ByteArray := prog_5_method_15_code
def yX3_thursdaysToTop : MethodName := ⟨RX3, "thursdaysToTop", "()I"⟩
abbrev cX3_isHeardFull : ByteArray := prog_5_method_16_code
def yX3_isHeardFull : MethodName := ⟨RX3, "isHeardFull", "()Z"⟩
abbrev cX3_addHeard : ByteArray := prog_5_method_17_code
def yX3_addHeard : MethodName := ⟨RX3, "addHeard", "(III)V"⟩
abbrev cX3_possibleSlips : ByteArray := prog_5_method_18_code
def yX3_possibleSlips : MethodName := ⟨RX3, "possibleSlips", "(I)I"⟩
abbrev cX3_explainsHeard : ByteArray := prog_5_method_19_code
def yX3_explainsHeard : MethodName := ⟨RX3, "explainsHeard", "(II)Z"⟩
abbrev cX3_bestQuestion : ByteArray := prog_5_method_20_code
def yX3_bestQuestion : MethodName := ⟨RX3, "bestQuestion", "(I)I"⟩
abbrev cX3_worstLeft : ByteArray := prog_5_method_21_code
def yX3_worstLeft : MethodName := ⟨RX3, "worstLeft", "(III)I"⟩
abbrev cX3_leftBy : ByteArray := prog_5_method_22_code
def yX3_leftBy : MethodName := ⟨RX3, "leftBy", "(IIII)I"⟩
abbrev cX3_knowing : ByteArray := prog_5_method_23_code
def yX3_knowing : MethodName := ⟨RX3, "knowing", "()I"⟩
abbrev cX3_unlikeRules : ByteArray := prog_5_method_24_code
def yX3_unlikeRules : MethodName := ⟨RX3, "unlikeRules", "()I"⟩
abbrev cX3_illOnes : ByteArray := prog_5_method_25_code
def yX3_illOnes : MethodName := ⟨RX3, "illOnes", "()I"⟩
def RX4 : String := "ThursdayRungs"
def TX4 : u_T := fun k => match k with
  | 0 => ("ThursdayRungs", "page", "LThursdayRungs$Page;", true)
  | 1 => ("ThursdayRungs", "school", "LThursdayRungs$School;", true)
  | 2 => ("ThursdayRungs", "kept", "LThursdayRungs$School;", true)
  | 3 => ("ThursdayRungs", "trial", "LThursdayRungs$School;", true)
  | 4 => ("ThursdayRungs", "draws", "LThursdayRungs$Draws;", true)
  | _ => ("ThursdayRungs", "schoolsRead", "I", false)
def tyX4 : Nat → FieldType := fun k => match k with
  | 0 => .object "ThursdayRungs$Page"
  | 1 => .object "ThursdayRungs$School"
  | 2 => .object "ThursdayRungs$School"
  | 3 => .object "ThursdayRungs$School"
  | 4 => .object "ThursdayRungs$Draws"
  | _ => .int
abbrev wsX40 : List Cond := u_ws RX4 TX4 6
theorem nmX4 : ∀ a, a < 6 → ∀ b, b < 6 → a ≠ b → (TX4 a).2.1 ≠ (TX4 b).2.1 := by decide +kernel
theorem tyX4_ok : ∀ k, k < 6 → parseFieldDescriptor (TX4 k).2.2.1 = some (tyX4 k) := by decide +kernel
abbrev cX4_init : ByteArray := prog_1_method_1_code
def yX4_init : MethodName := ⟨RX4, "<init>", "()V"⟩
abbrev cX4_letter : ByteArray := prog_1_method_2_code
def yX4_letter : MethodName := ⟨RX4, "letter", "(I)I"⟩
abbrev cX4_blank : ByteArray := prog_1_method_3_code
def yX4_blank : MethodName := ⟨RX4, "blank", "()I"⟩
abbrev cX4_fault : ByteArray := prog_1_method_4_code
def yX4_fault : MethodName := ⟨RX4, "fault", "()I"⟩
abbrev cX4_school : ByteArray := prog_1_method_5_code
def yX4_school : MethodName := ⟨RX4, "school", "()I"⟩
abbrev cX4_child : ByteArray := prog_1_method_6_code
def yX4_child : MethodName := ⟨RX4, "child", "(II)I"⟩
abbrev cX4_as : ByteArray := prog_1_method_7_code
def yX4_as : MethodName := ⟨RX4, "as", "(II)I"⟩
abbrev cX4_teaches : ByteArray := prog_1_method_8_code
def yX4_teaches : MethodName := ⟨RX4, "teaches", "(II)I"⟩
abbrev cX4_tell : ByteArray := prog_1_method_9_code
def yX4_tell : MethodName := ⟨RX4, "tell", "(II)I"⟩
abbrev cX4_ill : ByteArray := prog_1_method_10_code
def yX4_ill : MethodName := ⟨RX4, "ill", "(IZ)I"⟩
abbrev cX4_slip : ByteArray := prog_1_method_11_code
def yX4_slip : MethodName := ⟨RX4, "slip", "(II)I"⟩
abbrev cX4_thursday : ByteArray := prog_1_method_12_code
def yX4_thursday : MethodName := ⟨RX4, "thursday", "()I"⟩
abbrev cX4_arrives : ByteArray := prog_1_method_13_code
def yX4_arrives : MethodName := ⟨RX4, "arrives", "(II)I"⟩
abbrev cX4_from : ByteArray := prog_1_method_14_code
def yX4_from : MethodName := ⟨RX4, "from", "(II)I"⟩
abbrev cX4_soon : ByteArray := prog_1_method_15_code
def yX4_soon : MethodName := ⟨RX4, "soon", "()I"⟩
abbrev cX4_cure : ByteArray := prog_1_method_16_code
def yX4_cure : MethodName := ⟨RX4, "cure", "(I)I"⟩
abbrev cX4_hear : ByteArray := prog_1_method_17_code
def yX4_hear : MethodName := ⟨RX4, "hear", "(III)I"⟩
abbrev cX4_forget : ByteArray := prog_1_method_18_code
def yX4_forget : MethodName := ⟨RX4, "forget", "()I"⟩
abbrev cX4_terms : ByteArray := prog_1_method_19_code
def yX4_terms : MethodName := ⟨RX4, "terms", "(III)I"⟩
abbrev cX4_image : ByteArray := prog_1_method_20_code
def yX4_image : MethodName := ⟨RX4, "image", "()I"⟩
abbrev cX4_restore : ByteArray := prog_1_method_21_code
def yX4_restore : MethodName := ⟨RX4, "restore", "()I"⟩
abbrev cX4_count : ByteArray := prog_1_method_22_code
def yX4_count : MethodName := ⟨RX4, "count", "(I)I"⟩
abbrev cX4_digest : ByteArray := prog_1_method_23_code
def yX4_digest : MethodName := ⟨RX4, "digest", "()J"⟩
abbrev cX4_withChild : ByteArray := prog_1_method_24_code
def yX4_withChild : MethodName := ⟨RX4, "withChild", "(JI)J"⟩
abbrev cX4_with : ByteArray := prog_1_method_25_code
def yX4_with : MethodName := ⟨RX4, "with", "(JJ)J"⟩
abbrev cX4_refusalOf : ByteArray := prog_1_method_26_code
def yX4_refusalOf : MethodName := ⟨RX4, "refusalOf", "(II)I"⟩
abbrev cX4_isRule : ByteArray := prog_1_method_27_code
def yX4_isRule : MethodName := ⟨RX4, "isRule", "(I)Z"⟩
def RX5 : String := "ThursdayRungsModel"
def TX5 : u_T := fun k => match k with
  | 0 => ("ThursdayRungsModel", "page", "[I", true)
  | 1 => ("ThursdayRungsModel", "pageMany", "I", false)
  | 2 => ("ThursdayRungsModel", "children", "I", false)
  | 3 => ("ThursdayRungsModel", "thursdays", "I", false)
  | 4 => ("ThursdayRungsModel", "taught", "I", false)
  | 5 => ("ThursdayRungsModel", "schoolsRead", "I", false)
  | 6 => ("ThursdayRungsModel", "rows", "[I", true)
  | 7 => ("ThursdayRungsModel", "topTaught", "Z", false)
  | 8 => ("ThursdayRungsModel", "heardMany", "I", false)
  | 9 => ("ThursdayRungsModel", "heards", "[I", true)
  | 10 => ("ThursdayRungsModel", "parts", "[I", true)
  | 11 => ("ThursdayRungsModel", "seedNow", "I", false)
  | 12 => ("ThursdayRungsModel", "savedRows", "[I", true)
  | 13 => ("ThursdayRungsModel", "keptSchool", "I", false)
  | 14 => ("ThursdayRungsModel", "keptThursdays", "I", false)
  | 15 => ("ThursdayRungsModel", "keptTaught", "I", false)
  | 16 => ("ThursdayRungsModel", "keptHeard", "I", false)
  | 17 => ("ThursdayRungsModel", "keptRows", "[I", true)
  | 18 => ("ThursdayRungsModel", "keptHeards", "[I", true)
  | _ => ("ThursdayRungsModel", "hash", "J", false)
def tyX5 : Nat → FieldType := fun k => match k with
  | 0 => .array .int
  | 1 => .int
  | 2 => .int
  | 3 => .int
  | 4 => .int
  | 5 => .int
  | 6 => .array .int
  | 7 => .boolean
  | 8 => .int
  | 9 => .array .int
  | 10 => .array .int
  | 11 => .int
  | 12 => .array .int
  | 13 => .int
  | 14 => .int
  | 15 => .int
  | 16 => .int
  | 17 => .array .int
  | 18 => .array .int
  | _ => .long
abbrev wsX50 : List Cond := u_ws RX5 TX5 20
theorem nmX5 : ∀ a, a < 20 → ∀ b, b < 20 → a ≠ b → (TX5 a).2.1 ≠ (TX5 b).2.1 := by decide +kernel
theorem tyX5_ok : ∀ k, k < 20 → parseFieldDescriptor (TX5 k).2.2.1 = some (tyX5 k) := by decide +kernel
abbrev cX5_init : ByteArray := prog_7_method_1_code
def yX5_init : MethodName := ⟨RX5, "<init>", "()V"⟩
abbrev cX5_in : ByteArray := prog_7_method_2_code
def yX5_in : MethodName := ⟨RX5, "in", "(JJJ)Z"⟩
abbrev cX5_copy : ByteArray := prog_7_method_3_code
def yX5_copy : MethodName := ⟨RX5, "copy", "([I[I)V"⟩
abbrev cX5_letter : ByteArray := prog_7_method_4_code
def yX5_letter : MethodName := ⟨RX5, "letter", "(I)I"⟩
abbrev cX5_blank : ByteArray := prog_7_method_5_code
def yX5_blank : MethodName := ⟨RX5, "blank", "()I"⟩
abbrev cX5_kindBy : ByteArray := prog_7_method_6_code
def yX5_kindBy : MethodName := ⟨RX5, "kindBy", "(I)I"⟩
abbrev cX5_isGood : ByteArray := prog_7_method_7_code
def yX5_isGood : MethodName := ⟨RX5, "isGood", "(II)Z"⟩
abbrev cX5_faultOf : ByteArray := prog_7_method_8_code
def yX5_faultOf : MethodName := ⟨RX5, "faultOf", "()I"⟩
abbrev cX5_fault : ByteArray := prog_7_method_9_code
def yX5_fault : MethodName := ⟨RX5, "fault", "()I"⟩
abbrev cX5_school : ByteArray := prog_7_method_10_code
def yX5_school : MethodName := ⟨RX5, "school", "()I"⟩
abbrev cX5_lacks : ByteArray := prog_7_method_11_code
def yX5_lacks : MethodName := ⟨RX5, "lacks", "()Z"⟩
abbrev cX5_isChild : ByteArray := prog_7_method_12_code
def yX5_isChild : MethodName := ⟨RX5, "isChild", "(I)Z"⟩
abbrev cX5_isRule : ByteArray := prog_7_method_13_code
def yX5_isRule : MethodName := ⟨RX5, "isRule", "(I)Z"⟩
abbrev cX5_teachesBy : ByteArray := prog_7_method_14_code
def yX5_teachesBy : MethodName := ⟨RX5, "teachesBy", "(III)I"⟩
abbrev cX5_teachesOf : ByteArray := prog_7_method_15_code
def yX5_teachesOf : MethodName := ⟨RX5, "teachesOf", "(II)I"⟩
abbrev cX5_isIll : ByteArray := prog_7_method_16_code
def yX5_isIll : MethodName := ⟨RX5, "isIll", "(I)Z"⟩
abbrev cX5_wouldTeach : ByteArray := prog_7_method_17_code
def yX5_wouldTeach : MethodName := ⟨RX5, "wouldTeach", "(I)I"⟩
abbrev cX5_tellChild : ByteArray := prog_7_method_18_code
def yX5_tellChild : MethodName := ⟨RX5, "tellChild", "(II)I"⟩
abbrev cX5_child : ByteArray := prog_7_method_19_code
def yX5_child : MethodName := ⟨RX5, "child", "(II)I"⟩
abbrev cX5_as : ByteArray := prog_7_method_20_code
def yX5_as : MethodName := ⟨RX5, "as", "(II)I"⟩
abbrev cX5_teaches : ByteArray := prog_7_method_21_code
def yX5_teaches : MethodName := ⟨RX5, "teaches", "(II)I"⟩
abbrev cX5_tell : ByteArray := prog_7_method_22_code
def yX5_tell : MethodName := ⟨RX5, "tell", "(II)I"⟩
abbrev cX5_ill : ByteArray := prog_7_method_23_code
def yX5_ill : MethodName := ⟨RX5, "ill", "(IZ)I"⟩
abbrev cX5_slip : ByteArray := prog_7_method_24_code
def yX5_slip : MethodName := ⟨RX5, "slip", "(II)I"⟩
abbrev cX5_goesUp : ByteArray := prog_7_method_25_code
def yX5_goesUp : MethodName := ⟨RX5, "goesUp", "()I"⟩
abbrev cX5_thursday : ByteArray := prog_7_method_26_code
def yX5_thursday : MethodName := ⟨RX5, "thursday", "()I"⟩
abbrev cX5_arrivesOf : ByteArray := prog_7_method_27_code
def yX5_arrivesOf : MethodName := ⟨RX5, "arrivesOf", "(II)I"⟩
abbrev cX5_arrives : ByteArray := prog_7_method_28_code
def yX5_arrives : MethodName := ⟨RX5, "arrives", "(II)I"⟩
abbrev cX5_fromOf : ByteArray := prog_7_method_29_code
def yX5_fromOf : MethodName := ⟨RX5, "fromOf", "(II)I"⟩
abbrev cX5_from : ByteArray := prog_7_method_30_code
def yX5_from : MethodName := ⟨RX5, "from", "(II)I"⟩
abbrev cX5_soonOf : ByteArray := prog_7_method_31_code
def yX5_soonOf : MethodName := ⟨RX5, "soonOf", "()I"⟩
abbrev cX5_soon : ByteArray := prog_7_method_32_code
def yX5_soon : MethodName := ⟨RX5, "soon", "()I"⟩
abbrev cX5_asTheyAre : ByteArray := prog_7_method_33_code
def yX5_asTheyAre : MethodName := ⟨RX5, "asTheyAre", "()I"⟩
abbrev cX5_cureOf : ByteArray := prog_7_method_34_code
def yX5_cureOf : MethodName := ⟨RX5, "cureOf", "(I)I"⟩
abbrev cX5_cure : ByteArray := prog_7_method_35_code
def yX5_cure : MethodName := ⟨RX5, "cure", "(I)I"⟩
abbrev cX5_hear : ByteArray := prog_7_method_36_code
def yX5_hear : MethodName := ⟨RX5, "hear", "(III)I"⟩
abbrev cX5_forget : ByteArray := prog_7_method_37_code
def yX5_forget : MethodName := ⟨RX5, "forget", "()I"⟩
abbrev cX5_slipsOf : ByteArray := prog_7_method_38_code
def yX5_slipsOf : MethodName := ⟨RX5, "slipsOf", "(I)I"⟩
abbrev cX5_askOf : ByteArray := prog_7_method_39_code
def yX5_askOf : MethodName := ⟨RX5, "askOf", "(I)I"⟩
abbrev cX5_draw : ByteArray := prog_7_method_40_code
def yX5_draw : MethodName := ⟨RX5, "draw", "(I)I"⟩
abbrev cX5_terms : ByteArray := prog_7_method_41_code
def yX5_terms : MethodName := ⟨RX5, "terms", "(III)I"⟩
abbrev cX5_image : ByteArray := prog_7_method_42_code
def yX5_image : MethodName := ⟨RX5, "image", "()I"⟩
abbrev cX5_restore : ByteArray := prog_7_method_43_code
def yX5_restore : MethodName := ⟨RX5, "restore", "()I"⟩
abbrev cX5_knowing : ByteArray := prog_7_method_44_code
def yX5_knowing : MethodName := ⟨RX5, "knowing", "()I"⟩
abbrev cX5_unlike : ByteArray := prog_7_method_45_code
def yX5_unlike : MethodName := ⟨RX5, "unlike", "()I"⟩
abbrev cX5_illMany : ByteArray := prog_7_method_46_code
def yX5_illMany : MethodName := ⟨RX5, "illMany", "()I"⟩
abbrev cX5_countOf : ByteArray := prog_7_method_47_code
def yX5_countOf : MethodName := ⟨RX5, "countOf", "(I)I"⟩
abbrev cX5_count : ByteArray := prog_7_method_48_code
def yX5_count : MethodName := ⟨RX5, "count", "(I)I"⟩
abbrev cX5_say : ByteArray := prog_7_method_49_code
def yX5_say : MethodName := ⟨RX5, "say", "(J)V"⟩
abbrev cX5_sayChild : ByteArray := prog_7_method_50_code
def yX5_sayChild : MethodName := ⟨RX5, "sayChild", "(I)V"⟩
abbrev cX5_digest : ByteArray := prog_7_method_51_code
def yX5_digest : MethodName := ⟨RX5, "digest", "()J"⟩
def RJ11 : String := "java/lang/Character"
def TJ11 : u_T := fun k => match k with
  | _ => ("", "", "", false)
def tyJ11 : Nat → FieldType := fun k => match k with
  | _ => .int
abbrev wsJ110 : List Cond := u_ws RJ11 TJ11 0
theorem nmJ11 : ∀ a, a < 0 → ∀ b, b < 0 → a ≠ b → (TJ11 a).2.1 ≠ (TJ11 b).2.1 := by decide +kernel
theorem tyJ11_ok : ∀ k, k < 0 → parseFieldDescriptor (TJ11 k).2.2.1 = some (tyJ11 k) := by decide +kernel
abbrev cJ11_isValidCodePoint_9a6ad : ByteArray := prog_8_method_11_code
def yJ11_isValidCodePoint_9a6ad : MethodName := ⟨RJ11, "isValidCodePoint", "(I)Z"⟩
abbrev cJ11_highSurrogate_5068e : ByteArray := prog_8_method_28_code
def yJ11_highSurrogate_5068e : MethodName := ⟨RJ11, "highSurrogate", "(I)C"⟩
abbrev cJ11_lowSurrogate_5068e : ByteArray := prog_8_method_29_code
def yJ11_lowSurrogate_5068e : MethodName := ⟨RJ11, "lowSurrogate", "(I)C"⟩
def RJ6 : String := "java/lang/Integer"
def TJ6 : u_T := fun k => match k with
  | _ => ("", "", "", false)
def tyJ6 : Nat → FieldType := fun k => match k with
  | _ => .int
abbrev wsJ60 : List Cond := u_ws RJ6 TJ6 0
theorem nmJ6 : ∀ a, a < 0 → ∀ b, b < 0 → a ≠ b → (TJ6 a).2.1 ≠ (TJ6 b).2.1 := by decide +kernel
theorem tyJ6_ok : ∀ k, k < 0 → parseFieldDescriptor (TJ6 k).2.2.1 = some (tyJ6 k) := by decide +kernel
abbrev cJ6_bitCount_0f7a4 : ByteArray := prog_9_method_49_code
def yJ6_bitCount_0f7a4 : MethodName := ⟨RJ6, "bitCount", "(I)I"⟩
def RJ9 : String := "java/lang/Math"
def TJ9 : u_T := fun k => match k with
  | _ => ("", "", "", false)
def tyJ9 : Nat → FieldType := fun k => match k with
  | _ => .int
abbrev wsJ90 : List Cond := u_ws RJ9 TJ9 0
theorem nmJ9 : ∀ a, a < 0 → ∀ b, b < 0 → a ≠ b → (TJ9 a).2.1 ≠ (TJ9 b).2.1 := by decide +kernel
theorem tyJ9_ok : ∀ k, k < 0 → parseFieldDescriptor (TJ9 k).2.2.1 = some (tyJ9 k) := by decide +kernel
abbrev cJ9_max_7cf53 : ByteArray := prog_10_method_65_code
def yJ9_max_7cf53 : MethodName := ⟨RJ9, "max", "(II)I"⟩
abbrev cJ9_min_7cf53 : ByteArray := prog_10_method_69_code
def yJ9_min_7cf53 : MethodName := ⟨RJ9, "min", "(II)I"⟩
def RJ0 : String := "java/lang/String"
def TJ0 : u_T := fun k => match k with
  | _ => ("", "", "", false)
def tyJ0 : Nat → FieldType := fun k => match k with
  | _ => .int
abbrev wsJ00 : List Cond := u_ws RJ0 TJ0 0
theorem nmJ0 : ∀ a, a < 0 → ∀ b, b < 0 → a ≠ b → (TJ0 a).2.1 ≠ (TJ0 b).2.1 := by decide +kernel
theorem tyJ0_ok : ∀ k, k < 0 → parseFieldDescriptor (TJ0 k).2.2.1 = some (tyJ0 k) := by decide +kernel
abbrev cJ0_length_8abf5 : ByteArray := prog_11_method_54_code
def yJ0_length_8abf5 : MethodName := ⟨RJ0, "length", "()I"⟩
abbrev cJ0_indexOf_0f7a4 : ByteArray := prog_11_method_79_code
def yJ0_indexOf_0f7a4 : MethodName := ⟨RJ0, "indexOf", "(I)I"⟩
abbrev cJ0_indexOf_7cf53 : ByteArray := prog_11_method_80_code
def yJ0_indexOf_7cf53 : MethodName := ⟨RJ0, "indexOf", "(II)I"⟩
abbrev cJ0_coder_7d493 : ByteArray := prog_11_method_152_code
def yJ0_coder_7d493 : MethodName := ⟨RJ0, "coder", "()B"⟩
abbrev cJ0_isLatin1_aae02 : ByteArray := prog_11_method_154_code
def yJ0_isLatin1_aae02 : MethodName := ⟨RJ0, "isLatin1", "()Z"⟩
abbrev cJ0_checkBoundsBeginEnd_23922 : ByteArray := prog_11_method_158_code
def yJ0_checkBoundsBeginEnd_23922 : MethodName := ⟨RJ0, "checkBoundsBeginEnd", "(III)V"⟩
def RJ1 : String := "java/lang/StringLatin1"
def TJ1 : u_T := fun k => match k with
  | _ => ("", "", "", false)
def tyJ1 : Nat → FieldType := fun k => match k with
  | _ => .int
abbrev wsJ10 : List Cond := u_ws RJ1 TJ1 0
theorem nmJ1 : ∀ a, a < 0 → ∀ b, b < 0 → a ≠ b → (TJ1 a).2.1 ≠ (TJ1 b).2.1 := by decide +kernel
theorem tyJ1_ok : ∀ k, k < 0 → parseFieldDescriptor (TJ1 k).2.2.1 = some (tyJ1 k) := by decide +kernel
abbrev cJ1_canEncode_9a6ad : ByteArray := prog_12_method_4_code
def yJ1_canEncode_9a6ad : MethodName := ⟨RJ1, "canEncode", "(I)Z"⟩
abbrev cJ1_indexOf_4cfef : ByteArray := prog_12_method_22_code
def yJ1_indexOf_4cfef : MethodName := ⟨RJ1, "indexOf", "([BIII)I"⟩
abbrev cJ1_indexOfChar_4cfef : ByteArray := prog_12_method_23_code
def yJ1_indexOfChar_4cfef : MethodName := ⟨RJ1, "indexOfChar", "([BIII)I"⟩
def RJ2 : String := "java/lang/StringUTF16"
def TJ2 : u_T := fun k => match k with
  | _ => ("", "", "", false)
def tyJ2 : Nat → FieldType := fun k => match k with
  | _ => .int
abbrev wsJ20 : List Cond := u_ws RJ2 TJ2 0
theorem nmJ2 : ∀ a, a < 0 → ∀ b, b < 0 → a ≠ b → (TJ2 a).2.1 ≠ (TJ2 b).2.1 := by decide +kernel
theorem tyJ2_ok : ∀ k, k < 0 → parseFieldDescriptor (TJ2 k).2.2.1 = some (tyJ2 k) := by decide +kernel
abbrev cJ2_getChar_3b067 : ByteArray := prog_13_method_5_code
def yJ2_getChar_3b067 : MethodName := ⟨RJ2, "getChar", "([BI)C"⟩
abbrev cJ2_length_9d52b : ByteArray := prog_13_method_6_code
def yJ2_length_9d52b : MethodName := ⟨RJ2, "length", "([B)I"⟩
abbrev cJ2_indexOf_4cfef : ByteArray := prog_13_method_40_code
def yJ2_indexOf_4cfef : MethodName := ⟨RJ2, "indexOf", "([BIII)I"⟩
abbrev cJ2_indexOfChar_4cfef : ByteArray := prog_13_method_47_code
def yJ2_indexOfChar_4cfef : MethodName := ⟨RJ2, "indexOfChar", "([BIII)I"⟩
abbrev cJ2_indexOfCharUnsafe_4cfef : ByteArray := prog_13_method_48_code
def yJ2_indexOfCharUnsafe_4cfef : MethodName := ⟨RJ2, "indexOfCharUnsafe", "([BIII)I"⟩
abbrev cJ2_indexOfSupplementary_4cfef : ByteArray := prog_13_method_49_code
def yJ2_indexOfSupplementary_4cfef : MethodName := ⟨RJ2, "indexOfSupplementary", "([BIII)I"⟩
abbrev cJ2_checkBoundsBeginEnd_d044e : ByteArray := prog_13_method_93_code
def yJ2_checkBoundsBeginEnd_d044e : MethodName := ⟨RJ2, "checkBoundsBeginEnd", "(II[B)V"⟩
def RJ10 : String := "java/lang/System"
def TJ10 : u_T := fun k => match k with
  | _ => ("", "", "", false)
def tyJ10 : Nat → FieldType := fun k => match k with
  | _ => .int
abbrev wsJ100 : List Cond := u_ws RJ10 TJ10 0
theorem nmJ10 : ∀ a, a < 0 → ∀ b, b < 0 → a ≠ b → (TJ10 a).2.1 ≠ (TJ10 b).2.1 := by decide +kernel
theorem tyJ10_ok : ∀ k, k < 0 → parseFieldDescriptor (TJ10 k).2.2.1 = some (tyJ10 k) := by decide +kernel
def RJ3 : String := "jdk/internal/util/Preconditions"
def TJ3 : u_T := fun k => match k with
  | _ => ("", "", "", false)
def tyJ3 : Nat → FieldType := fun k => match k with
  | _ => .int
abbrev wsJ30 : List Cond := u_ws RJ3 TJ3 0
theorem nmJ3 : ∀ a, a < 0 → ∀ b, b < 0 → a ≠ b → (TJ3 a).2.1 ≠ (TJ3 b).2.1 := by decide +kernel
theorem tyJ3_ok : ∀ k, k < 0 → parseFieldDescriptor (TJ3 k).2.2.1 = some (tyJ3 k) := by decide +kernel
abbrev cJ3_checkFromToIndex_8c36e : ByteArray := prog_15_method_12_code
def yJ3_checkFromToIndex_8c36e : MethodName := ⟨RJ3, "checkFromToIndex", "(IIILjava/util/function/BiFunction;)I"⟩
def RL : String := "ThursdayRungsLaw"
abbrev cL_law : ByteArray := code
def yL_law : MethodName := ⟨RL, "law", "([I)Z"⟩
def wsX0_init : List Cond := .code yX0_init cX0_init 1 none :: ([.methodLink RX0 1 objectInit, .instanceMethod objectInit, .code objectInit ⟨#[0xb1]⟩ 1 none, .fieldLink RX0 7 "ThursdayRungs$Draws" "seed" "J"] ++ wsX00)
def wsX0_next : List Cond := .code yX0_next cX0_next 2 (some .int) :: ([.constantLong RX0 13 (1103515245), .fieldLink RX0 7 "ThursdayRungs$Draws" "seed" "J", .constantLong RX0 15 (12345), .constantLong RX0 17 (2147483648), .constantLong RX0 19 (65536)] ++ wsX00)
def wsX1_isA : List Cond := .code yX1_isA cX1_isA 2 (some .boolean) :: ([])
def wsX1_passesOn : List Cond := .code yX1_passesOn cX1_passesOn 3 (some .int) :: ([])
def wsX2_init : List Cond := .code yX2_init cX2_init 1 none :: ([.methodLink RX2 1 objectInit, .instanceMethod objectInit, .code objectInit ⟨#[0xb1]⟩ 1 none, .arrayClass .int, .fieldLink RX2 9 "ThursdayRungs$Page" "codes" "[I", .fieldLink RX2 13 "ThursdayRungs$Page" "size" "I"] ++ wsX20)
def wsX2_isFull : List Cond := .code yX2_isFull cX2_isFull 1 (some .boolean) :: ([.fieldLink RX2 13 "ThursdayRungs$Page" "size" "I"] ++ wsX20)
def wsX2_add : List Cond := .code yX2_add cX2_add 2 none :: ([.fieldLink RX2 9 "ThursdayRungs$Page" "codes" "[I", .fieldLink RX2 13 "ThursdayRungs$Page" "size" "I", .methodLink RX2 17 yX2_isFull, .instanceMethod yX2_isFull, .selects RX2 yX2_isFull yX2_isFull, .initialized RX2, .code yX2_isFull cX2_isFull 1 (some .boolean)] ++ wsX20)
def wsJ0_isLatin1_aae02 : List Cond := .code yJ0_isLatin1_aae02 cJ0_isLatin1_aae02 1 (some .boolean) :: ([.fieldLink RJ0 38 "java/lang/String" "COMPACT_STRINGS" "Z", .fieldLink RJ0 15 "java/lang/String" "coder" "B"])
def wsJ0_coder_7d493 : List Cond := .code yJ0_coder_7d493 cJ0_coder_7d493 1 (some .byte) :: ([.fieldLink RJ0 38 "java/lang/String" "COMPACT_STRINGS" "Z", .fieldLink RJ0 15 "java/lang/String" "coder" "B"])
def wsJ0_length_8abf5 : List Cond := .code yJ0_length_8abf5 cJ0_length_8abf5 1 (some .int) :: ([.fieldLink RJ0 9 "java/lang/String" "value" "[B", .methodLink RJ0 335 yJ0_coder_7d493, .instanceMethod yJ0_coder_7d493, .selects RJ0 yJ0_coder_7d493 yJ0_coder_7d493, .initialized RJ0, .code yJ0_coder_7d493 cJ0_coder_7d493 1 (some .byte), .fieldLink RJ0 38 "java/lang/String" "COMPACT_STRINGS" "Z", .fieldLink RJ0 15 "java/lang/String" "coder" "B"])
def wsJ1_canEncode_9a6ad : List Cond := .code yJ1_canEncode_9a6ad cJ1_canEncode_9a6ad 1 (some .boolean) :: ([])
def wsJ1_indexOfChar_4cfef : List Cond := .code yJ1_indexOfChar_4cfef cJ1_indexOfChar_4cfef 6 (some .int) :: ([])
def wsJ1_indexOf_4cfef : List Cond := .code yJ1_indexOf_4cfef cJ1_indexOf_4cfef 4 (some .int) :: ([.methodLink RJ1 92 Lib.Math.max.name, .static Lib.Math.max.name, .initialized "java/lang/Math", .code Lib.Math.max.name Lib.Math.max.code 2 (some .int), .methodLink RJ1 38 Lib.Math.min.name, .static Lib.Math.min.name, .code Lib.Math.min.name Lib.Math.min.code 2 (some .int), .methodLink RJ1 88 yJ1_canEncode_9a6ad, .static yJ1_canEncode_9a6ad, .initialized RJ1, .code yJ1_canEncode_9a6ad cJ1_canEncode_9a6ad 1 (some .boolean), .methodLink RJ1 95 yJ1_indexOfChar_4cfef, .static yJ1_indexOfChar_4cfef, .code yJ1_indexOfChar_4cfef cJ1_indexOfChar_4cfef 6 (some .int)])
def wsJ2_length_9d52b : List Cond := .code yJ2_length_9d52b cJ2_length_9d52b 1 (some .int) :: ([])
def wsJ3_checkFromToIndex_8c36e : List Cond := .code yJ3_checkFromToIndex_8c36e cJ3_checkFromToIndex_8c36e 4 (some .int) :: ([])
def wsJ0_checkBoundsBeginEnd_23922 : List Cond := .code yJ0_checkBoundsBeginEnd_23922 cJ0_checkBoundsBeginEnd_23922 3 none :: ([.fieldLink RJ0 1053 "jdk/internal/util/Preconditions" "SIOOBE_FORMATTER" "Ljava/util/function/BiFunction;", .methodLink RJ0 1062 yJ3_checkFromToIndex_8c36e, .static yJ3_checkFromToIndex_8c36e, .initialized RJ3, .code yJ3_checkFromToIndex_8c36e cJ3_checkFromToIndex_8c36e 4 (some .int)])
def wsJ2_checkBoundsBeginEnd_d044e : List Cond := .code yJ2_checkBoundsBeginEnd_d044e cJ2_checkBoundsBeginEnd_d044e 3 none :: ([.methodLink RJ2 48 yJ2_length_9d52b, .static yJ2_length_9d52b, .initialized RJ2, .code yJ2_length_9d52b cJ2_length_9d52b 1 (some .int), .methodLink RJ2 241 yJ0_checkBoundsBeginEnd_23922, .static yJ0_checkBoundsBeginEnd_23922, .initialized RJ0, .code yJ0_checkBoundsBeginEnd_23922 cJ0_checkBoundsBeginEnd_23922 3 none, .fieldLink RJ0 1053 "jdk/internal/util/Preconditions" "SIOOBE_FORMATTER" "Ljava/util/function/BiFunction;", .methodLink RJ0 1062 yJ3_checkFromToIndex_8c36e, .static yJ3_checkFromToIndex_8c36e, .initialized RJ3, .code yJ3_checkFromToIndex_8c36e cJ3_checkFromToIndex_8c36e 4 (some .int)])
def wsJ2_getChar_3b067 : List Cond := .code yJ2_getChar_3b067 cJ2_getChar_3b067 2 (some .char) :: ([.fieldLink RJ2 44 "java/lang/StringUTF16" "$assertionsDisabled" "Z", .fieldLink RJ2 59 "java/lang/StringUTF16" "HI_BYTE_SHIFT" "I", .fieldLink RJ2 63 "java/lang/StringUTF16" "LO_BYTE_SHIFT" "I", .methodLink RJ2 48 yJ2_length_9d52b, .static yJ2_length_9d52b, .initialized RJ2, .code yJ2_length_9d52b cJ2_length_9d52b 1 (some .int)])
def wsJ2_indexOfCharUnsafe_4cfef : List Cond := .code yJ2_indexOfCharUnsafe_4cfef cJ2_indexOfCharUnsafe_4cfef 5 (some .int) :: ([.methodLink RJ2 71 yJ2_getChar_3b067, .static yJ2_getChar_3b067, .initialized RJ2, .code yJ2_getChar_3b067 cJ2_getChar_3b067 2 (some .char), .fieldLink RJ2 44 "java/lang/StringUTF16" "$assertionsDisabled" "Z", .fieldLink RJ2 59 "java/lang/StringUTF16" "HI_BYTE_SHIFT" "I", .fieldLink RJ2 63 "java/lang/StringUTF16" "LO_BYTE_SHIFT" "I", .methodLink RJ2 48 yJ2_length_9d52b, .static yJ2_length_9d52b, .code yJ2_length_9d52b cJ2_length_9d52b 1 (some .int)])
def wsJ2_indexOfChar_4cfef_r1 : List Cond := [Cond.methodLink RJ2 96 yJ2_checkBoundsBeginEnd_d044e, Cond.static yJ2_checkBoundsBeginEnd_d044e, Cond.initialized RJ2, Cond.code yJ2_checkBoundsBeginEnd_d044e cJ2_checkBoundsBeginEnd_d044e 3 none, Cond.methodLink RJ2 48 yJ2_length_9d52b, Cond.static yJ2_length_9d52b, Cond.code yJ2_length_9d52b cJ2_length_9d52b 1 (some .int), Cond.methodLink RJ2 241 yJ0_checkBoundsBeginEnd_23922, Cond.static yJ0_checkBoundsBeginEnd_23922, Cond.initialized RJ0, Cond.code yJ0_checkBoundsBeginEnd_23922 cJ0_checkBoundsBeginEnd_23922 3 none, Cond.fieldLink RJ0 1053 "jdk/internal/util/Preconditions" "SIOOBE_FORMATTER" "Ljava/util/function/BiFunction;", Cond.methodLink RJ0 1062 yJ3_checkFromToIndex_8c36e, Cond.static yJ3_checkFromToIndex_8c36e, Cond.initialized RJ3, Cond.code yJ3_checkFromToIndex_8c36e cJ3_checkFromToIndex_8c36e 4 (some .int), Cond.methodLink RJ2 244 yJ2_indexOfCharUnsafe_4cfef, Cond.static yJ2_indexOfCharUnsafe_4cfef, Cond.code yJ2_indexOfCharUnsafe_4cfef cJ2_indexOfCharUnsafe_4cfef 5 (some .int), Cond.methodLink RJ2 71 yJ2_getChar_3b067, Cond.static yJ2_getChar_3b067, Cond.code yJ2_getChar_3b067 cJ2_getChar_3b067 2 (some .char), Cond.fieldLink RJ2 44 "java/lang/StringUTF16" "$assertionsDisabled" "Z", Cond.fieldLink RJ2 59 "java/lang/StringUTF16" "HI_BYTE_SHIFT" "I"]
def wsJ2_indexOfChar_4cfef_r2 : List Cond := [Cond.fieldLink RJ2 63 "java/lang/StringUTF16" "LO_BYTE_SHIFT" "I"]
def wsJ2_indexOfChar_4cfef : List Cond := .code yJ2_indexOfChar_4cfef cJ2_indexOfChar_4cfef 4 (some .int) :: ((wsJ2_indexOfChar_4cfef_r1 ++ wsJ2_indexOfChar_4cfef_r2))
def wsJ11_isValidCodePoint_9a6ad : List Cond := .code yJ11_isValidCodePoint_9a6ad cJ11_isValidCodePoint_9a6ad 2 (some .boolean) :: ([])
def wsJ11_highSurrogate_5068e : List Cond := .code yJ11_highSurrogate_5068e cJ11_highSurrogate_5068e 1 (some .char) :: ([.constant RJ11 110 (55232)])
def wsJ11_lowSurrogate_5068e : List Cond := .code yJ11_lowSurrogate_5068e cJ11_lowSurrogate_5068e 1 (some .char) :: ([.constant RJ11 76 (56320)])
def wsJ2_indexOfSupplementary_4cfef_r1 : List Cond := [Cond.methodLink RJ2 164 yJ11_isValidCodePoint_9a6ad, Cond.static yJ11_isValidCodePoint_9a6ad, Cond.initialized RJ11, Cond.code yJ11_isValidCodePoint_9a6ad cJ11_isValidCodePoint_9a6ad 2 (some .boolean), Cond.methodLink RJ2 157 yJ11_highSurrogate_5068e, Cond.static yJ11_highSurrogate_5068e, Cond.code yJ11_highSurrogate_5068e cJ11_highSurrogate_5068e 1 (some .char), Cond.constant RJ11 110 (55232), Cond.methodLink RJ2 161 yJ11_lowSurrogate_5068e, Cond.static yJ11_lowSurrogate_5068e, Cond.code yJ11_lowSurrogate_5068e cJ11_lowSurrogate_5068e 1 (some .char), Cond.constant RJ11 76 (56320), Cond.methodLink RJ2 96 yJ2_checkBoundsBeginEnd_d044e, Cond.static yJ2_checkBoundsBeginEnd_d044e, Cond.initialized RJ2, Cond.code yJ2_checkBoundsBeginEnd_d044e cJ2_checkBoundsBeginEnd_d044e 3 none, Cond.methodLink RJ2 48 yJ2_length_9d52b, Cond.static yJ2_length_9d52b, Cond.code yJ2_length_9d52b cJ2_length_9d52b 1 (some .int), Cond.methodLink RJ2 241 yJ0_checkBoundsBeginEnd_23922, Cond.static yJ0_checkBoundsBeginEnd_23922, Cond.initialized RJ0, Cond.code yJ0_checkBoundsBeginEnd_23922 cJ0_checkBoundsBeginEnd_23922 3 none, Cond.fieldLink RJ0 1053 "jdk/internal/util/Preconditions" "SIOOBE_FORMATTER" "Ljava/util/function/BiFunction;"]
def wsJ2_indexOfSupplementary_4cfef_r2 : List Cond := [Cond.methodLink RJ0 1062 yJ3_checkFromToIndex_8c36e, Cond.static yJ3_checkFromToIndex_8c36e, Cond.initialized RJ3, Cond.code yJ3_checkFromToIndex_8c36e cJ3_checkFromToIndex_8c36e 4 (some .int), Cond.methodLink RJ2 71 yJ2_getChar_3b067, Cond.static yJ2_getChar_3b067, Cond.code yJ2_getChar_3b067 cJ2_getChar_3b067 2 (some .char), Cond.fieldLink RJ2 44 "java/lang/StringUTF16" "$assertionsDisabled" "Z", Cond.fieldLink RJ2 59 "java/lang/StringUTF16" "HI_BYTE_SHIFT" "I", Cond.fieldLink RJ2 63 "java/lang/StringUTF16" "LO_BYTE_SHIFT" "I"]
def wsJ2_indexOfSupplementary_4cfef : List Cond := .code yJ2_indexOfSupplementary_4cfef cJ2_indexOfSupplementary_4cfef 7 (some .int) :: ((wsJ2_indexOfSupplementary_4cfef_r1 ++ wsJ2_indexOfSupplementary_4cfef_r2))
def wsJ2_indexOf_4cfef_r1 : List Cond := [Cond.methodLink RJ2 224 Lib.Math.max.name, Cond.static Lib.Math.max.name, Cond.initialized "java/lang/Math", Cond.code Lib.Math.max.name Lib.Math.max.code 2 (some .int), Cond.methodLink RJ2 183 Lib.Math.min.name, Cond.static Lib.Math.min.name, Cond.code Lib.Math.min.name Lib.Math.min.code 2 (some .int), Cond.constant RJ2 227 (65536), Cond.methodLink RJ2 228 yJ2_indexOfChar_4cfef, Cond.static yJ2_indexOfChar_4cfef, Cond.initialized RJ2, Cond.code yJ2_indexOfChar_4cfef cJ2_indexOfChar_4cfef 4 (some .int), Cond.methodLink RJ2 96 yJ2_checkBoundsBeginEnd_d044e, Cond.static yJ2_checkBoundsBeginEnd_d044e, Cond.code yJ2_checkBoundsBeginEnd_d044e cJ2_checkBoundsBeginEnd_d044e 3 none, Cond.methodLink RJ2 48 yJ2_length_9d52b, Cond.static yJ2_length_9d52b, Cond.code yJ2_length_9d52b cJ2_length_9d52b 1 (some .int), Cond.methodLink RJ2 241 yJ0_checkBoundsBeginEnd_23922, Cond.static yJ0_checkBoundsBeginEnd_23922, Cond.initialized RJ0, Cond.code yJ0_checkBoundsBeginEnd_23922 cJ0_checkBoundsBeginEnd_23922 3 none, Cond.fieldLink RJ0 1053 "jdk/internal/util/Preconditions" "SIOOBE_FORMATTER" "Ljava/util/function/BiFunction;", Cond.methodLink RJ0 1062 yJ3_checkFromToIndex_8c36e]
def wsJ2_indexOf_4cfef_r2 : List Cond := [Cond.static yJ3_checkFromToIndex_8c36e, Cond.initialized RJ3, Cond.code yJ3_checkFromToIndex_8c36e cJ3_checkFromToIndex_8c36e 4 (some .int), Cond.methodLink RJ2 244 yJ2_indexOfCharUnsafe_4cfef, Cond.static yJ2_indexOfCharUnsafe_4cfef, Cond.code yJ2_indexOfCharUnsafe_4cfef cJ2_indexOfCharUnsafe_4cfef 5 (some .int), Cond.methodLink RJ2 71 yJ2_getChar_3b067, Cond.static yJ2_getChar_3b067, Cond.code yJ2_getChar_3b067 cJ2_getChar_3b067 2 (some .char), Cond.fieldLink RJ2 44 "java/lang/StringUTF16" "$assertionsDisabled" "Z", Cond.fieldLink RJ2 59 "java/lang/StringUTF16" "HI_BYTE_SHIFT" "I", Cond.fieldLink RJ2 63 "java/lang/StringUTF16" "LO_BYTE_SHIFT" "I", Cond.methodLink RJ2 232 yJ2_indexOfSupplementary_4cfef, Cond.static yJ2_indexOfSupplementary_4cfef, Cond.code yJ2_indexOfSupplementary_4cfef cJ2_indexOfSupplementary_4cfef 7 (some .int), Cond.methodLink RJ2 164 yJ11_isValidCodePoint_9a6ad, Cond.static yJ11_isValidCodePoint_9a6ad, Cond.initialized RJ11, Cond.code yJ11_isValidCodePoint_9a6ad cJ11_isValidCodePoint_9a6ad 2 (some .boolean), Cond.methodLink RJ2 157 yJ11_highSurrogate_5068e, Cond.static yJ11_highSurrogate_5068e, Cond.code yJ11_highSurrogate_5068e cJ11_highSurrogate_5068e 1 (some .char), Cond.constant RJ11 110 (55232), Cond.methodLink RJ2 161 yJ11_lowSurrogate_5068e]
def wsJ2_indexOf_4cfef_r3 : List Cond := [Cond.static yJ11_lowSurrogate_5068e, Cond.code yJ11_lowSurrogate_5068e cJ11_lowSurrogate_5068e 1 (some .char), Cond.constant RJ11 76 (56320)]
def wsJ2_indexOf_4cfef : List Cond := .code yJ2_indexOf_4cfef cJ2_indexOf_4cfef 4 (some .int) :: ((wsJ2_indexOf_4cfef_r1 ++ (wsJ2_indexOf_4cfef_r2 ++ wsJ2_indexOf_4cfef_r3)))
def wsJ0_indexOf_7cf53_r1 : List Cond := [Cond.fieldLink RJ0 9 "java/lang/String" "value" "[B", Cond.methodLink RJ0 492 yJ0_isLatin1_aae02, Cond.instanceMethod yJ0_isLatin1_aae02, Cond.selects RJ0 yJ0_isLatin1_aae02 yJ0_isLatin1_aae02, Cond.initialized RJ0, Cond.code yJ0_isLatin1_aae02 cJ0_isLatin1_aae02 1 (some .boolean), Cond.fieldLink RJ0 38 "java/lang/String" "COMPACT_STRINGS" "Z", Cond.fieldLink RJ0 15 "java/lang/String" "coder" "B", Cond.methodLink RJ0 505 yJ0_length_8abf5, Cond.instanceMethod yJ0_length_8abf5, Cond.selects RJ0 yJ0_length_8abf5 yJ0_length_8abf5, Cond.code yJ0_length_8abf5 cJ0_length_8abf5 1 (some .int), Cond.methodLink RJ0 335 yJ0_coder_7d493, Cond.instanceMethod yJ0_coder_7d493, Cond.selects RJ0 yJ0_coder_7d493 yJ0_coder_7d493, Cond.code yJ0_coder_7d493 cJ0_coder_7d493 1 (some .byte), Cond.methodLink RJ0 637 yJ1_indexOf_4cfef, Cond.static yJ1_indexOf_4cfef, Cond.initialized RJ1, Cond.code yJ1_indexOf_4cfef cJ1_indexOf_4cfef 4 (some .int), Cond.methodLink RJ1 92 Lib.Math.max.name, Cond.static Lib.Math.max.name, Cond.initialized "java/lang/Math", Cond.code Lib.Math.max.name Lib.Math.max.code 2 (some .int)]
def wsJ0_indexOf_7cf53_r2 : List Cond := [Cond.methodLink RJ1 38 Lib.Math.min.name, Cond.static Lib.Math.min.name, Cond.code Lib.Math.min.name Lib.Math.min.code 2 (some .int), Cond.methodLink RJ1 88 yJ1_canEncode_9a6ad, Cond.static yJ1_canEncode_9a6ad, Cond.code yJ1_canEncode_9a6ad cJ1_canEncode_9a6ad 1 (some .boolean), Cond.methodLink RJ1 95 yJ1_indexOfChar_4cfef, Cond.static yJ1_indexOfChar_4cfef, Cond.code yJ1_indexOfChar_4cfef cJ1_indexOfChar_4cfef 6 (some .int), Cond.methodLink RJ0 640 yJ2_indexOf_4cfef, Cond.static yJ2_indexOf_4cfef, Cond.initialized RJ2, Cond.code yJ2_indexOf_4cfef cJ2_indexOf_4cfef 4 (some .int), Cond.methodLink RJ2 224 Lib.Math.max.name, Cond.methodLink RJ2 183 Lib.Math.min.name, Cond.constant RJ2 227 (65536), Cond.methodLink RJ2 228 yJ2_indexOfChar_4cfef, Cond.static yJ2_indexOfChar_4cfef, Cond.code yJ2_indexOfChar_4cfef cJ2_indexOfChar_4cfef 4 (some .int), Cond.methodLink RJ2 96 yJ2_checkBoundsBeginEnd_d044e, Cond.static yJ2_checkBoundsBeginEnd_d044e, Cond.code yJ2_checkBoundsBeginEnd_d044e cJ2_checkBoundsBeginEnd_d044e 3 none, Cond.methodLink RJ2 48 yJ2_length_9d52b, Cond.static yJ2_length_9d52b]
def wsJ0_indexOf_7cf53_r3 : List Cond := [Cond.code yJ2_length_9d52b cJ2_length_9d52b 1 (some .int), Cond.methodLink RJ2 241 yJ0_checkBoundsBeginEnd_23922, Cond.static yJ0_checkBoundsBeginEnd_23922, Cond.code yJ0_checkBoundsBeginEnd_23922 cJ0_checkBoundsBeginEnd_23922 3 none, Cond.fieldLink RJ0 1053 "jdk/internal/util/Preconditions" "SIOOBE_FORMATTER" "Ljava/util/function/BiFunction;", Cond.methodLink RJ0 1062 yJ3_checkFromToIndex_8c36e, Cond.static yJ3_checkFromToIndex_8c36e, Cond.initialized RJ3, Cond.code yJ3_checkFromToIndex_8c36e cJ3_checkFromToIndex_8c36e 4 (some .int), Cond.methodLink RJ2 244 yJ2_indexOfCharUnsafe_4cfef, Cond.static yJ2_indexOfCharUnsafe_4cfef, Cond.code yJ2_indexOfCharUnsafe_4cfef cJ2_indexOfCharUnsafe_4cfef 5 (some .int), Cond.methodLink RJ2 71 yJ2_getChar_3b067, Cond.static yJ2_getChar_3b067, Cond.code yJ2_getChar_3b067 cJ2_getChar_3b067 2 (some .char), Cond.fieldLink RJ2 44 "java/lang/StringUTF16" "$assertionsDisabled" "Z", Cond.fieldLink RJ2 59 "java/lang/StringUTF16" "HI_BYTE_SHIFT" "I", Cond.fieldLink RJ2 63 "java/lang/StringUTF16" "LO_BYTE_SHIFT" "I", Cond.methodLink RJ2 232 yJ2_indexOfSupplementary_4cfef, Cond.static yJ2_indexOfSupplementary_4cfef, Cond.code yJ2_indexOfSupplementary_4cfef cJ2_indexOfSupplementary_4cfef 7 (some .int), Cond.methodLink RJ2 164 yJ11_isValidCodePoint_9a6ad, Cond.static yJ11_isValidCodePoint_9a6ad, Cond.initialized RJ11]
def wsJ0_indexOf_7cf53_r4 : List Cond := [Cond.code yJ11_isValidCodePoint_9a6ad cJ11_isValidCodePoint_9a6ad 2 (some .boolean), Cond.methodLink RJ2 157 yJ11_highSurrogate_5068e, Cond.static yJ11_highSurrogate_5068e, Cond.code yJ11_highSurrogate_5068e cJ11_highSurrogate_5068e 1 (some .char), Cond.constant RJ11 110 (55232), Cond.methodLink RJ2 161 yJ11_lowSurrogate_5068e, Cond.static yJ11_lowSurrogate_5068e, Cond.code yJ11_lowSurrogate_5068e cJ11_lowSurrogate_5068e 1 (some .char), Cond.constant RJ11 76 (56320)]
def wsJ0_indexOf_7cf53 : List Cond := .code yJ0_indexOf_7cf53 cJ0_indexOf_7cf53 3 (some .int) :: ((wsJ0_indexOf_7cf53_r1 ++ (wsJ0_indexOf_7cf53_r2 ++ (wsJ0_indexOf_7cf53_r3 ++ wsJ0_indexOf_7cf53_r4))))
def wsJ0_indexOf_0f7a4_r1 : List Cond := [Cond.methodLink RJ0 633 yJ0_indexOf_7cf53, Cond.instanceMethod yJ0_indexOf_7cf53, Cond.selects RJ0 yJ0_indexOf_7cf53 yJ0_indexOf_7cf53, Cond.initialized RJ0, Cond.code yJ0_indexOf_7cf53 cJ0_indexOf_7cf53 3 (some .int), Cond.fieldLink RJ0 9 "java/lang/String" "value" "[B", Cond.methodLink RJ0 492 yJ0_isLatin1_aae02, Cond.instanceMethod yJ0_isLatin1_aae02, Cond.selects RJ0 yJ0_isLatin1_aae02 yJ0_isLatin1_aae02, Cond.code yJ0_isLatin1_aae02 cJ0_isLatin1_aae02 1 (some .boolean), Cond.fieldLink RJ0 38 "java/lang/String" "COMPACT_STRINGS" "Z", Cond.fieldLink RJ0 15 "java/lang/String" "coder" "B", Cond.methodLink RJ0 505 yJ0_length_8abf5, Cond.instanceMethod yJ0_length_8abf5, Cond.selects RJ0 yJ0_length_8abf5 yJ0_length_8abf5, Cond.code yJ0_length_8abf5 cJ0_length_8abf5 1 (some .int), Cond.methodLink RJ0 335 yJ0_coder_7d493, Cond.instanceMethod yJ0_coder_7d493, Cond.selects RJ0 yJ0_coder_7d493 yJ0_coder_7d493, Cond.code yJ0_coder_7d493 cJ0_coder_7d493 1 (some .byte), Cond.methodLink RJ0 637 yJ1_indexOf_4cfef, Cond.static yJ1_indexOf_4cfef, Cond.initialized RJ1, Cond.code yJ1_indexOf_4cfef cJ1_indexOf_4cfef 4 (some .int)]
def wsJ0_indexOf_0f7a4_r2 : List Cond := [Cond.methodLink RJ1 92 Lib.Math.max.name, Cond.static Lib.Math.max.name, Cond.initialized "java/lang/Math", Cond.code Lib.Math.max.name Lib.Math.max.code 2 (some .int), Cond.methodLink RJ1 38 Lib.Math.min.name, Cond.static Lib.Math.min.name, Cond.code Lib.Math.min.name Lib.Math.min.code 2 (some .int), Cond.methodLink RJ1 88 yJ1_canEncode_9a6ad, Cond.static yJ1_canEncode_9a6ad, Cond.code yJ1_canEncode_9a6ad cJ1_canEncode_9a6ad 1 (some .boolean), Cond.methodLink RJ1 95 yJ1_indexOfChar_4cfef, Cond.static yJ1_indexOfChar_4cfef, Cond.code yJ1_indexOfChar_4cfef cJ1_indexOfChar_4cfef 6 (some .int), Cond.methodLink RJ0 640 yJ2_indexOf_4cfef, Cond.static yJ2_indexOf_4cfef, Cond.initialized RJ2, Cond.code yJ2_indexOf_4cfef cJ2_indexOf_4cfef 4 (some .int), Cond.methodLink RJ2 224 Lib.Math.max.name, Cond.methodLink RJ2 183 Lib.Math.min.name, Cond.constant RJ2 227 (65536), Cond.methodLink RJ2 228 yJ2_indexOfChar_4cfef, Cond.static yJ2_indexOfChar_4cfef, Cond.code yJ2_indexOfChar_4cfef cJ2_indexOfChar_4cfef 4 (some .int), Cond.methodLink RJ2 96 yJ2_checkBoundsBeginEnd_d044e]
def wsJ0_indexOf_0f7a4_r3 : List Cond := [Cond.static yJ2_checkBoundsBeginEnd_d044e, Cond.code yJ2_checkBoundsBeginEnd_d044e cJ2_checkBoundsBeginEnd_d044e 3 none, Cond.methodLink RJ2 48 yJ2_length_9d52b, Cond.static yJ2_length_9d52b, Cond.code yJ2_length_9d52b cJ2_length_9d52b 1 (some .int), Cond.methodLink RJ2 241 yJ0_checkBoundsBeginEnd_23922, Cond.static yJ0_checkBoundsBeginEnd_23922, Cond.code yJ0_checkBoundsBeginEnd_23922 cJ0_checkBoundsBeginEnd_23922 3 none, Cond.fieldLink RJ0 1053 "jdk/internal/util/Preconditions" "SIOOBE_FORMATTER" "Ljava/util/function/BiFunction;", Cond.methodLink RJ0 1062 yJ3_checkFromToIndex_8c36e, Cond.static yJ3_checkFromToIndex_8c36e, Cond.initialized RJ3, Cond.code yJ3_checkFromToIndex_8c36e cJ3_checkFromToIndex_8c36e 4 (some .int), Cond.methodLink RJ2 244 yJ2_indexOfCharUnsafe_4cfef, Cond.static yJ2_indexOfCharUnsafe_4cfef, Cond.code yJ2_indexOfCharUnsafe_4cfef cJ2_indexOfCharUnsafe_4cfef 5 (some .int), Cond.methodLink RJ2 71 yJ2_getChar_3b067, Cond.static yJ2_getChar_3b067, Cond.code yJ2_getChar_3b067 cJ2_getChar_3b067 2 (some .char), Cond.fieldLink RJ2 44 "java/lang/StringUTF16" "$assertionsDisabled" "Z", Cond.fieldLink RJ2 59 "java/lang/StringUTF16" "HI_BYTE_SHIFT" "I", Cond.fieldLink RJ2 63 "java/lang/StringUTF16" "LO_BYTE_SHIFT" "I", Cond.methodLink RJ2 232 yJ2_indexOfSupplementary_4cfef, Cond.static yJ2_indexOfSupplementary_4cfef]
def wsJ0_indexOf_0f7a4_r4 : List Cond := [Cond.code yJ2_indexOfSupplementary_4cfef cJ2_indexOfSupplementary_4cfef 7 (some .int), Cond.methodLink RJ2 164 yJ11_isValidCodePoint_9a6ad, Cond.static yJ11_isValidCodePoint_9a6ad, Cond.initialized RJ11, Cond.code yJ11_isValidCodePoint_9a6ad cJ11_isValidCodePoint_9a6ad 2 (some .boolean), Cond.methodLink RJ2 157 yJ11_highSurrogate_5068e, Cond.static yJ11_highSurrogate_5068e, Cond.code yJ11_highSurrogate_5068e cJ11_highSurrogate_5068e 1 (some .char), Cond.constant RJ11 110 (55232), Cond.methodLink RJ2 161 yJ11_lowSurrogate_5068e, Cond.static yJ11_lowSurrogate_5068e, Cond.code yJ11_lowSurrogate_5068e cJ11_lowSurrogate_5068e 1 (some .char), Cond.constant RJ11 76 (56320)]
def wsJ0_indexOf_0f7a4 : List Cond := .code yJ0_indexOf_0f7a4 cJ0_indexOf_0f7a4 2 (some .int) :: ((wsJ0_indexOf_0f7a4_r1 ++ (wsJ0_indexOf_0f7a4_r2 ++ (wsJ0_indexOf_0f7a4_r3 ++ wsJ0_indexOf_0f7a4_r4))))
def wsX2_fits_r1 : List Cond := [Cond.fieldLink RX2 9 "ThursdayRungs$Page" "codes" "[I", Cond.methodLink RX2 36 yJ0_indexOf_0f7a4, Cond.instanceMethod yJ0_indexOf_0f7a4, Cond.selects RJ0 yJ0_indexOf_0f7a4 yJ0_indexOf_0f7a4, Cond.initialized RJ0, Cond.code yJ0_indexOf_0f7a4 cJ0_indexOf_0f7a4 2 (some .int), Cond.methodLink RJ0 633 yJ0_indexOf_7cf53, Cond.instanceMethod yJ0_indexOf_7cf53, Cond.selects RJ0 yJ0_indexOf_7cf53 yJ0_indexOf_7cf53, Cond.code yJ0_indexOf_7cf53 cJ0_indexOf_7cf53 3 (some .int), Cond.fieldLink RJ0 9 "java/lang/String" "value" "[B", Cond.methodLink RJ0 492 yJ0_isLatin1_aae02, Cond.instanceMethod yJ0_isLatin1_aae02, Cond.selects RJ0 yJ0_isLatin1_aae02 yJ0_isLatin1_aae02, Cond.code yJ0_isLatin1_aae02 cJ0_isLatin1_aae02 1 (some .boolean), Cond.fieldLink RJ0 38 "java/lang/String" "COMPACT_STRINGS" "Z", Cond.fieldLink RJ0 15 "java/lang/String" "coder" "B", Cond.methodLink RJ0 505 yJ0_length_8abf5, Cond.instanceMethod yJ0_length_8abf5, Cond.selects RJ0 yJ0_length_8abf5 yJ0_length_8abf5, Cond.code yJ0_length_8abf5 cJ0_length_8abf5 1 (some .int), Cond.methodLink RJ0 335 yJ0_coder_7d493, Cond.instanceMethod yJ0_coder_7d493, Cond.selects RJ0 yJ0_coder_7d493 yJ0_coder_7d493]
def wsX2_fits_r2 : List Cond := [Cond.code yJ0_coder_7d493 cJ0_coder_7d493 1 (some .byte), Cond.methodLink RJ0 637 yJ1_indexOf_4cfef, Cond.static yJ1_indexOf_4cfef, Cond.initialized RJ1, Cond.code yJ1_indexOf_4cfef cJ1_indexOf_4cfef 4 (some .int), Cond.methodLink RJ1 92 Lib.Math.max.name, Cond.static Lib.Math.max.name, Cond.initialized "java/lang/Math", Cond.code Lib.Math.max.name Lib.Math.max.code 2 (some .int), Cond.methodLink RJ1 38 Lib.Math.min.name, Cond.static Lib.Math.min.name, Cond.code Lib.Math.min.name Lib.Math.min.code 2 (some .int), Cond.methodLink RJ1 88 yJ1_canEncode_9a6ad, Cond.static yJ1_canEncode_9a6ad, Cond.code yJ1_canEncode_9a6ad cJ1_canEncode_9a6ad 1 (some .boolean), Cond.methodLink RJ1 95 yJ1_indexOfChar_4cfef, Cond.static yJ1_indexOfChar_4cfef, Cond.code yJ1_indexOfChar_4cfef cJ1_indexOfChar_4cfef 6 (some .int), Cond.methodLink RJ0 640 yJ2_indexOf_4cfef, Cond.static yJ2_indexOf_4cfef, Cond.initialized RJ2, Cond.code yJ2_indexOf_4cfef cJ2_indexOf_4cfef 4 (some .int), Cond.methodLink RJ2 224 Lib.Math.max.name, Cond.methodLink RJ2 183 Lib.Math.min.name]
def wsX2_fits_r3 : List Cond := [Cond.constant RJ2 227 (65536), Cond.methodLink RJ2 228 yJ2_indexOfChar_4cfef, Cond.static yJ2_indexOfChar_4cfef, Cond.code yJ2_indexOfChar_4cfef cJ2_indexOfChar_4cfef 4 (some .int), Cond.methodLink RJ2 96 yJ2_checkBoundsBeginEnd_d044e, Cond.static yJ2_checkBoundsBeginEnd_d044e, Cond.code yJ2_checkBoundsBeginEnd_d044e cJ2_checkBoundsBeginEnd_d044e 3 none, Cond.methodLink RJ2 48 yJ2_length_9d52b, Cond.static yJ2_length_9d52b, Cond.code yJ2_length_9d52b cJ2_length_9d52b 1 (some .int), Cond.methodLink RJ2 241 yJ0_checkBoundsBeginEnd_23922, Cond.static yJ0_checkBoundsBeginEnd_23922, Cond.code yJ0_checkBoundsBeginEnd_23922 cJ0_checkBoundsBeginEnd_23922 3 none, Cond.fieldLink RJ0 1053 "jdk/internal/util/Preconditions" "SIOOBE_FORMATTER" "Ljava/util/function/BiFunction;", Cond.methodLink RJ0 1062 yJ3_checkFromToIndex_8c36e, Cond.static yJ3_checkFromToIndex_8c36e, Cond.initialized RJ3, Cond.code yJ3_checkFromToIndex_8c36e cJ3_checkFromToIndex_8c36e 4 (some .int), Cond.methodLink RJ2 244 yJ2_indexOfCharUnsafe_4cfef, Cond.static yJ2_indexOfCharUnsafe_4cfef, Cond.code yJ2_indexOfCharUnsafe_4cfef cJ2_indexOfCharUnsafe_4cfef 5 (some .int), Cond.methodLink RJ2 71 yJ2_getChar_3b067, Cond.static yJ2_getChar_3b067, Cond.code yJ2_getChar_3b067 cJ2_getChar_3b067 2 (some .char)]
def wsX2_fits_r4 : List Cond := [Cond.fieldLink RJ2 44 "java/lang/StringUTF16" "$assertionsDisabled" "Z", Cond.fieldLink RJ2 59 "java/lang/StringUTF16" "HI_BYTE_SHIFT" "I", Cond.fieldLink RJ2 63 "java/lang/StringUTF16" "LO_BYTE_SHIFT" "I", Cond.methodLink RJ2 232 yJ2_indexOfSupplementary_4cfef, Cond.static yJ2_indexOfSupplementary_4cfef, Cond.code yJ2_indexOfSupplementary_4cfef cJ2_indexOfSupplementary_4cfef 7 (some .int), Cond.methodLink RJ2 164 yJ11_isValidCodePoint_9a6ad, Cond.static yJ11_isValidCodePoint_9a6ad, Cond.initialized RJ11, Cond.code yJ11_isValidCodePoint_9a6ad cJ11_isValidCodePoint_9a6ad 2 (some .boolean), Cond.methodLink RJ2 157 yJ11_highSurrogate_5068e, Cond.static yJ11_highSurrogate_5068e, Cond.code yJ11_highSurrogate_5068e cJ11_highSurrogate_5068e 1 (some .char), Cond.constant RJ11 110 (55232), Cond.methodLink RJ2 161 yJ11_lowSurrogate_5068e, Cond.static yJ11_lowSurrogate_5068e, Cond.code yJ11_lowSurrogate_5068e cJ11_lowSurrogate_5068e 1 (some .char), Cond.constant RJ11 76 (56320)]
def wsX2_fits : List Cond := .code yX2_fits cX2_fits 3 (some .boolean) :: ((wsX2_fits_r1 ++ (wsX2_fits_r2 ++ (wsX2_fits_r3 ++ wsX2_fits_r4))) ++ wsX20)
def wsX2_firstMisfit_r1 : List Cond := [Cond.fieldLink RX2 13 "ThursdayRungs$Page" "size" "I", Cond.methodLink RX2 21 yX2_fits, Cond.instanceMethod yX2_fits, Cond.selects RX2 yX2_fits yX2_fits, Cond.initialized RX2, Cond.code yX2_fits cX2_fits 3 (some .boolean), Cond.fieldLink RX2 9 "ThursdayRungs$Page" "codes" "[I", Cond.methodLink RX2 36 yJ0_indexOf_0f7a4, Cond.instanceMethod yJ0_indexOf_0f7a4, Cond.selects RJ0 yJ0_indexOf_0f7a4 yJ0_indexOf_0f7a4, Cond.initialized RJ0, Cond.code yJ0_indexOf_0f7a4 cJ0_indexOf_0f7a4 2 (some .int), Cond.methodLink RJ0 633 yJ0_indexOf_7cf53, Cond.instanceMethod yJ0_indexOf_7cf53, Cond.selects RJ0 yJ0_indexOf_7cf53 yJ0_indexOf_7cf53, Cond.code yJ0_indexOf_7cf53 cJ0_indexOf_7cf53 3 (some .int), Cond.fieldLink RJ0 9 "java/lang/String" "value" "[B", Cond.methodLink RJ0 492 yJ0_isLatin1_aae02, Cond.instanceMethod yJ0_isLatin1_aae02, Cond.selects RJ0 yJ0_isLatin1_aae02 yJ0_isLatin1_aae02, Cond.code yJ0_isLatin1_aae02 cJ0_isLatin1_aae02 1 (some .boolean), Cond.fieldLink RJ0 38 "java/lang/String" "COMPACT_STRINGS" "Z", Cond.fieldLink RJ0 15 "java/lang/String" "coder" "B", Cond.methodLink RJ0 505 yJ0_length_8abf5]
def wsX2_firstMisfit_r2 : List Cond := [Cond.instanceMethod yJ0_length_8abf5, Cond.selects RJ0 yJ0_length_8abf5 yJ0_length_8abf5, Cond.code yJ0_length_8abf5 cJ0_length_8abf5 1 (some .int), Cond.methodLink RJ0 335 yJ0_coder_7d493, Cond.instanceMethod yJ0_coder_7d493, Cond.selects RJ0 yJ0_coder_7d493 yJ0_coder_7d493, Cond.code yJ0_coder_7d493 cJ0_coder_7d493 1 (some .byte), Cond.methodLink RJ0 637 yJ1_indexOf_4cfef, Cond.static yJ1_indexOf_4cfef, Cond.initialized RJ1, Cond.code yJ1_indexOf_4cfef cJ1_indexOf_4cfef 4 (some .int), Cond.methodLink RJ1 92 Lib.Math.max.name, Cond.static Lib.Math.max.name, Cond.initialized "java/lang/Math", Cond.code Lib.Math.max.name Lib.Math.max.code 2 (some .int), Cond.methodLink RJ1 38 Lib.Math.min.name, Cond.static Lib.Math.min.name, Cond.code Lib.Math.min.name Lib.Math.min.code 2 (some .int), Cond.methodLink RJ1 88 yJ1_canEncode_9a6ad, Cond.static yJ1_canEncode_9a6ad, Cond.code yJ1_canEncode_9a6ad cJ1_canEncode_9a6ad 1 (some .boolean), Cond.methodLink RJ1 95 yJ1_indexOfChar_4cfef, Cond.static yJ1_indexOfChar_4cfef, Cond.code yJ1_indexOfChar_4cfef cJ1_indexOfChar_4cfef 6 (some .int)]
def wsX2_firstMisfit_r3 : List Cond := [Cond.methodLink RJ0 640 yJ2_indexOf_4cfef, Cond.static yJ2_indexOf_4cfef, Cond.initialized RJ2, Cond.code yJ2_indexOf_4cfef cJ2_indexOf_4cfef 4 (some .int), Cond.methodLink RJ2 224 Lib.Math.max.name, Cond.methodLink RJ2 183 Lib.Math.min.name, Cond.constant RJ2 227 (65536), Cond.methodLink RJ2 228 yJ2_indexOfChar_4cfef, Cond.static yJ2_indexOfChar_4cfef, Cond.code yJ2_indexOfChar_4cfef cJ2_indexOfChar_4cfef 4 (some .int), Cond.methodLink RJ2 96 yJ2_checkBoundsBeginEnd_d044e, Cond.static yJ2_checkBoundsBeginEnd_d044e, Cond.code yJ2_checkBoundsBeginEnd_d044e cJ2_checkBoundsBeginEnd_d044e 3 none, Cond.methodLink RJ2 48 yJ2_length_9d52b, Cond.static yJ2_length_9d52b, Cond.code yJ2_length_9d52b cJ2_length_9d52b 1 (some .int), Cond.methodLink RJ2 241 yJ0_checkBoundsBeginEnd_23922, Cond.static yJ0_checkBoundsBeginEnd_23922, Cond.code yJ0_checkBoundsBeginEnd_23922 cJ0_checkBoundsBeginEnd_23922 3 none, Cond.fieldLink RJ0 1053 "jdk/internal/util/Preconditions" "SIOOBE_FORMATTER" "Ljava/util/function/BiFunction;", Cond.methodLink RJ0 1062 yJ3_checkFromToIndex_8c36e, Cond.static yJ3_checkFromToIndex_8c36e, Cond.initialized RJ3, Cond.code yJ3_checkFromToIndex_8c36e cJ3_checkFromToIndex_8c36e 4 (some .int)]
def wsX2_firstMisfit_r4 : List Cond := [Cond.methodLink RJ2 244 yJ2_indexOfCharUnsafe_4cfef, Cond.static yJ2_indexOfCharUnsafe_4cfef, Cond.code yJ2_indexOfCharUnsafe_4cfef cJ2_indexOfCharUnsafe_4cfef 5 (some .int), Cond.methodLink RJ2 71 yJ2_getChar_3b067, Cond.static yJ2_getChar_3b067, Cond.code yJ2_getChar_3b067 cJ2_getChar_3b067 2 (some .char), Cond.fieldLink RJ2 44 "java/lang/StringUTF16" "$assertionsDisabled" "Z", Cond.fieldLink RJ2 59 "java/lang/StringUTF16" "HI_BYTE_SHIFT" "I", Cond.fieldLink RJ2 63 "java/lang/StringUTF16" "LO_BYTE_SHIFT" "I", Cond.methodLink RJ2 232 yJ2_indexOfSupplementary_4cfef, Cond.static yJ2_indexOfSupplementary_4cfef, Cond.code yJ2_indexOfSupplementary_4cfef cJ2_indexOfSupplementary_4cfef 7 (some .int), Cond.methodLink RJ2 164 yJ11_isValidCodePoint_9a6ad, Cond.static yJ11_isValidCodePoint_9a6ad, Cond.initialized RJ11, Cond.code yJ11_isValidCodePoint_9a6ad cJ11_isValidCodePoint_9a6ad 2 (some .boolean), Cond.methodLink RJ2 157 yJ11_highSurrogate_5068e, Cond.static yJ11_highSurrogate_5068e, Cond.code yJ11_highSurrogate_5068e cJ11_highSurrogate_5068e 1 (some .char), Cond.constant RJ11 110 (55232), Cond.methodLink RJ2 161 yJ11_lowSurrogate_5068e, Cond.static yJ11_lowSurrogate_5068e, Cond.code yJ11_lowSurrogate_5068e cJ11_lowSurrogate_5068e 1 (some .char), Cond.constant RJ11 76 (56320)]
def wsX2_firstMisfit : List Cond := .code yX2_firstMisfit cX2_firstMisfit 2 (some .int) :: ((wsX2_firstMisfit_r1 ++ (wsX2_firstMisfit_r2 ++ (wsX2_firstMisfit_r3 ++ wsX2_firstMisfit_r4))) ++ wsX20)
def wsX2_children : List Cond := .code yX2_children cX2_children 1 (some .int) :: ([.fieldLink RX2 13 "ThursdayRungs$Page" "size" "I"] ++ wsX20)
def wsX2_isSchool_r1 : List Cond := [Cond.fieldLink RX2 13 "ThursdayRungs$Page" "size" "I", Cond.methodLink RX2 25 yX2_children, Cond.instanceMethod yX2_children, Cond.selects RX2 yX2_children yX2_children, Cond.initialized RX2, Cond.code yX2_children cX2_children 1 (some .int), Cond.methodLink RX2 29 yX2_firstMisfit, Cond.instanceMethod yX2_firstMisfit, Cond.selects RX2 yX2_firstMisfit yX2_firstMisfit, Cond.code yX2_firstMisfit cX2_firstMisfit 2 (some .int), Cond.methodLink RX2 21 yX2_fits, Cond.instanceMethod yX2_fits, Cond.selects RX2 yX2_fits yX2_fits, Cond.code yX2_fits cX2_fits 3 (some .boolean), Cond.fieldLink RX2 9 "ThursdayRungs$Page" "codes" "[I", Cond.methodLink RX2 36 yJ0_indexOf_0f7a4, Cond.instanceMethod yJ0_indexOf_0f7a4, Cond.selects RJ0 yJ0_indexOf_0f7a4 yJ0_indexOf_0f7a4, Cond.initialized RJ0, Cond.code yJ0_indexOf_0f7a4 cJ0_indexOf_0f7a4 2 (some .int), Cond.methodLink RJ0 633 yJ0_indexOf_7cf53, Cond.instanceMethod yJ0_indexOf_7cf53, Cond.selects RJ0 yJ0_indexOf_7cf53 yJ0_indexOf_7cf53, Cond.code yJ0_indexOf_7cf53 cJ0_indexOf_7cf53 3 (some .int)]
def wsX2_isSchool_r2 : List Cond := [Cond.fieldLink RJ0 9 "java/lang/String" "value" "[B", Cond.methodLink RJ0 492 yJ0_isLatin1_aae02, Cond.instanceMethod yJ0_isLatin1_aae02, Cond.selects RJ0 yJ0_isLatin1_aae02 yJ0_isLatin1_aae02, Cond.code yJ0_isLatin1_aae02 cJ0_isLatin1_aae02 1 (some .boolean), Cond.fieldLink RJ0 38 "java/lang/String" "COMPACT_STRINGS" "Z", Cond.fieldLink RJ0 15 "java/lang/String" "coder" "B", Cond.methodLink RJ0 505 yJ0_length_8abf5, Cond.instanceMethod yJ0_length_8abf5, Cond.selects RJ0 yJ0_length_8abf5 yJ0_length_8abf5, Cond.code yJ0_length_8abf5 cJ0_length_8abf5 1 (some .int), Cond.methodLink RJ0 335 yJ0_coder_7d493, Cond.instanceMethod yJ0_coder_7d493, Cond.selects RJ0 yJ0_coder_7d493 yJ0_coder_7d493, Cond.code yJ0_coder_7d493 cJ0_coder_7d493 1 (some .byte), Cond.methodLink RJ0 637 yJ1_indexOf_4cfef, Cond.static yJ1_indexOf_4cfef, Cond.initialized RJ1, Cond.code yJ1_indexOf_4cfef cJ1_indexOf_4cfef 4 (some .int), Cond.methodLink RJ1 92 Lib.Math.max.name, Cond.static Lib.Math.max.name, Cond.initialized "java/lang/Math", Cond.code Lib.Math.max.name Lib.Math.max.code 2 (some .int), Cond.methodLink RJ1 38 Lib.Math.min.name]
def wsX2_isSchool_r3 : List Cond := [Cond.static Lib.Math.min.name, Cond.code Lib.Math.min.name Lib.Math.min.code 2 (some .int), Cond.methodLink RJ1 88 yJ1_canEncode_9a6ad, Cond.static yJ1_canEncode_9a6ad, Cond.code yJ1_canEncode_9a6ad cJ1_canEncode_9a6ad 1 (some .boolean), Cond.methodLink RJ1 95 yJ1_indexOfChar_4cfef, Cond.static yJ1_indexOfChar_4cfef, Cond.code yJ1_indexOfChar_4cfef cJ1_indexOfChar_4cfef 6 (some .int), Cond.methodLink RJ0 640 yJ2_indexOf_4cfef, Cond.static yJ2_indexOf_4cfef, Cond.initialized RJ2, Cond.code yJ2_indexOf_4cfef cJ2_indexOf_4cfef 4 (some .int), Cond.methodLink RJ2 224 Lib.Math.max.name, Cond.methodLink RJ2 183 Lib.Math.min.name, Cond.constant RJ2 227 (65536), Cond.methodLink RJ2 228 yJ2_indexOfChar_4cfef, Cond.static yJ2_indexOfChar_4cfef, Cond.code yJ2_indexOfChar_4cfef cJ2_indexOfChar_4cfef 4 (some .int), Cond.methodLink RJ2 96 yJ2_checkBoundsBeginEnd_d044e, Cond.static yJ2_checkBoundsBeginEnd_d044e, Cond.code yJ2_checkBoundsBeginEnd_d044e cJ2_checkBoundsBeginEnd_d044e 3 none, Cond.methodLink RJ2 48 yJ2_length_9d52b, Cond.static yJ2_length_9d52b, Cond.code yJ2_length_9d52b cJ2_length_9d52b 1 (some .int)]
def wsX2_isSchool_r4 : List Cond := [Cond.methodLink RJ2 241 yJ0_checkBoundsBeginEnd_23922, Cond.static yJ0_checkBoundsBeginEnd_23922, Cond.code yJ0_checkBoundsBeginEnd_23922 cJ0_checkBoundsBeginEnd_23922 3 none, Cond.fieldLink RJ0 1053 "jdk/internal/util/Preconditions" "SIOOBE_FORMATTER" "Ljava/util/function/BiFunction;", Cond.methodLink RJ0 1062 yJ3_checkFromToIndex_8c36e, Cond.static yJ3_checkFromToIndex_8c36e, Cond.initialized RJ3, Cond.code yJ3_checkFromToIndex_8c36e cJ3_checkFromToIndex_8c36e 4 (some .int), Cond.methodLink RJ2 244 yJ2_indexOfCharUnsafe_4cfef, Cond.static yJ2_indexOfCharUnsafe_4cfef, Cond.code yJ2_indexOfCharUnsafe_4cfef cJ2_indexOfCharUnsafe_4cfef 5 (some .int), Cond.methodLink RJ2 71 yJ2_getChar_3b067, Cond.static yJ2_getChar_3b067, Cond.code yJ2_getChar_3b067 cJ2_getChar_3b067 2 (some .char), Cond.fieldLink RJ2 44 "java/lang/StringUTF16" "$assertionsDisabled" "Z", Cond.fieldLink RJ2 59 "java/lang/StringUTF16" "HI_BYTE_SHIFT" "I", Cond.fieldLink RJ2 63 "java/lang/StringUTF16" "LO_BYTE_SHIFT" "I", Cond.methodLink RJ2 232 yJ2_indexOfSupplementary_4cfef, Cond.static yJ2_indexOfSupplementary_4cfef, Cond.code yJ2_indexOfSupplementary_4cfef cJ2_indexOfSupplementary_4cfef 7 (some .int), Cond.methodLink RJ2 164 yJ11_isValidCodePoint_9a6ad, Cond.static yJ11_isValidCodePoint_9a6ad, Cond.initialized RJ11, Cond.code yJ11_isValidCodePoint_9a6ad cJ11_isValidCodePoint_9a6ad 2 (some .boolean)]
def wsX2_isSchool_r5 : List Cond := [Cond.methodLink RJ2 157 yJ11_highSurrogate_5068e, Cond.static yJ11_highSurrogate_5068e, Cond.code yJ11_highSurrogate_5068e cJ11_highSurrogate_5068e 1 (some .char), Cond.constant RJ11 110 (55232), Cond.methodLink RJ2 161 yJ11_lowSurrogate_5068e, Cond.static yJ11_lowSurrogate_5068e, Cond.code yJ11_lowSurrogate_5068e cJ11_lowSurrogate_5068e 1 (some .char), Cond.constant RJ11 76 (56320)]
def wsX2_isSchool : List Cond := .code yX2_isSchool cX2_isSchool 1 (some .boolean) :: ((wsX2_isSchool_r1 ++ (wsX2_isSchool_r2 ++ (wsX2_isSchool_r3 ++ (wsX2_isSchool_r4 ++ wsX2_isSchool_r5)))) ++ wsX20)
def wsX2_kindOf_r1 : List Cond := [Cond.fieldLink RX2 9 "ThursdayRungs$Page" "codes" "[I", Cond.methodLink RX2 36 yJ0_indexOf_0f7a4, Cond.instanceMethod yJ0_indexOf_0f7a4, Cond.selects RJ0 yJ0_indexOf_0f7a4 yJ0_indexOf_0f7a4, Cond.initialized RJ0, Cond.code yJ0_indexOf_0f7a4 cJ0_indexOf_0f7a4 2 (some .int), Cond.methodLink RJ0 633 yJ0_indexOf_7cf53, Cond.instanceMethod yJ0_indexOf_7cf53, Cond.selects RJ0 yJ0_indexOf_7cf53 yJ0_indexOf_7cf53, Cond.code yJ0_indexOf_7cf53 cJ0_indexOf_7cf53 3 (some .int), Cond.fieldLink RJ0 9 "java/lang/String" "value" "[B", Cond.methodLink RJ0 492 yJ0_isLatin1_aae02, Cond.instanceMethod yJ0_isLatin1_aae02, Cond.selects RJ0 yJ0_isLatin1_aae02 yJ0_isLatin1_aae02, Cond.code yJ0_isLatin1_aae02 cJ0_isLatin1_aae02 1 (some .boolean), Cond.fieldLink RJ0 38 "java/lang/String" "COMPACT_STRINGS" "Z", Cond.fieldLink RJ0 15 "java/lang/String" "coder" "B", Cond.methodLink RJ0 505 yJ0_length_8abf5, Cond.instanceMethod yJ0_length_8abf5, Cond.selects RJ0 yJ0_length_8abf5 yJ0_length_8abf5, Cond.code yJ0_length_8abf5 cJ0_length_8abf5 1 (some .int), Cond.methodLink RJ0 335 yJ0_coder_7d493, Cond.instanceMethod yJ0_coder_7d493, Cond.selects RJ0 yJ0_coder_7d493 yJ0_coder_7d493]
def wsX2_kindOf_r2 : List Cond := [Cond.code yJ0_coder_7d493 cJ0_coder_7d493 1 (some .byte), Cond.methodLink RJ0 637 yJ1_indexOf_4cfef, Cond.static yJ1_indexOf_4cfef, Cond.initialized RJ1, Cond.code yJ1_indexOf_4cfef cJ1_indexOf_4cfef 4 (some .int), Cond.methodLink RJ1 92 Lib.Math.max.name, Cond.static Lib.Math.max.name, Cond.initialized "java/lang/Math", Cond.code Lib.Math.max.name Lib.Math.max.code 2 (some .int), Cond.methodLink RJ1 38 Lib.Math.min.name, Cond.static Lib.Math.min.name, Cond.code Lib.Math.min.name Lib.Math.min.code 2 (some .int), Cond.methodLink RJ1 88 yJ1_canEncode_9a6ad, Cond.static yJ1_canEncode_9a6ad, Cond.code yJ1_canEncode_9a6ad cJ1_canEncode_9a6ad 1 (some .boolean), Cond.methodLink RJ1 95 yJ1_indexOfChar_4cfef, Cond.static yJ1_indexOfChar_4cfef, Cond.code yJ1_indexOfChar_4cfef cJ1_indexOfChar_4cfef 6 (some .int), Cond.methodLink RJ0 640 yJ2_indexOf_4cfef, Cond.static yJ2_indexOf_4cfef, Cond.initialized RJ2, Cond.code yJ2_indexOf_4cfef cJ2_indexOf_4cfef 4 (some .int), Cond.methodLink RJ2 224 Lib.Math.max.name, Cond.methodLink RJ2 183 Lib.Math.min.name]
def wsX2_kindOf_r3 : List Cond := [Cond.constant RJ2 227 (65536), Cond.methodLink RJ2 228 yJ2_indexOfChar_4cfef, Cond.static yJ2_indexOfChar_4cfef, Cond.code yJ2_indexOfChar_4cfef cJ2_indexOfChar_4cfef 4 (some .int), Cond.methodLink RJ2 96 yJ2_checkBoundsBeginEnd_d044e, Cond.static yJ2_checkBoundsBeginEnd_d044e, Cond.code yJ2_checkBoundsBeginEnd_d044e cJ2_checkBoundsBeginEnd_d044e 3 none, Cond.methodLink RJ2 48 yJ2_length_9d52b, Cond.static yJ2_length_9d52b, Cond.code yJ2_length_9d52b cJ2_length_9d52b 1 (some .int), Cond.methodLink RJ2 241 yJ0_checkBoundsBeginEnd_23922, Cond.static yJ0_checkBoundsBeginEnd_23922, Cond.code yJ0_checkBoundsBeginEnd_23922 cJ0_checkBoundsBeginEnd_23922 3 none, Cond.fieldLink RJ0 1053 "jdk/internal/util/Preconditions" "SIOOBE_FORMATTER" "Ljava/util/function/BiFunction;", Cond.methodLink RJ0 1062 yJ3_checkFromToIndex_8c36e, Cond.static yJ3_checkFromToIndex_8c36e, Cond.initialized RJ3, Cond.code yJ3_checkFromToIndex_8c36e cJ3_checkFromToIndex_8c36e 4 (some .int), Cond.methodLink RJ2 244 yJ2_indexOfCharUnsafe_4cfef, Cond.static yJ2_indexOfCharUnsafe_4cfef, Cond.code yJ2_indexOfCharUnsafe_4cfef cJ2_indexOfCharUnsafe_4cfef 5 (some .int), Cond.methodLink RJ2 71 yJ2_getChar_3b067, Cond.static yJ2_getChar_3b067, Cond.code yJ2_getChar_3b067 cJ2_getChar_3b067 2 (some .char)]
def wsX2_kindOf_r4 : List Cond := [Cond.fieldLink RJ2 44 "java/lang/StringUTF16" "$assertionsDisabled" "Z", Cond.fieldLink RJ2 59 "java/lang/StringUTF16" "HI_BYTE_SHIFT" "I", Cond.fieldLink RJ2 63 "java/lang/StringUTF16" "LO_BYTE_SHIFT" "I", Cond.methodLink RJ2 232 yJ2_indexOfSupplementary_4cfef, Cond.static yJ2_indexOfSupplementary_4cfef, Cond.code yJ2_indexOfSupplementary_4cfef cJ2_indexOfSupplementary_4cfef 7 (some .int), Cond.methodLink RJ2 164 yJ11_isValidCodePoint_9a6ad, Cond.static yJ11_isValidCodePoint_9a6ad, Cond.initialized RJ11, Cond.code yJ11_isValidCodePoint_9a6ad cJ11_isValidCodePoint_9a6ad 2 (some .boolean), Cond.methodLink RJ2 157 yJ11_highSurrogate_5068e, Cond.static yJ11_highSurrogate_5068e, Cond.code yJ11_highSurrogate_5068e cJ11_highSurrogate_5068e 1 (some .char), Cond.constant RJ11 110 (55232), Cond.methodLink RJ2 161 yJ11_lowSurrogate_5068e, Cond.static yJ11_lowSurrogate_5068e, Cond.code yJ11_lowSurrogate_5068e cJ11_lowSurrogate_5068e 1 (some .char), Cond.constant RJ11 76 (56320)]
def wsX2_kindOf : List Cond := .code yX2_kindOf cX2_kindOf 2 (some .int) :: ((wsX2_kindOf_r1 ++ (wsX2_kindOf_r2 ++ (wsX2_kindOf_r3 ++ wsX2_kindOf_r4))) ++ wsX20)
def wsX2_slipOf : List Cond := .code yX2_slipOf cX2_slipOf 2 (some .int) :: ([.fieldLink RX2 9 "ThursdayRungs$Page" "codes" "[I"] ++ wsX20)
def wsX3_init : List Cond := .code yX3_init cX3_init 1 none :: ([.methodLink RX3 3 objectInit, .instanceMethod objectInit, .code objectInit ⟨#[0xb1]⟩ 1 none, .arrayClass .int, .fieldLink RX3 11 "ThursdayRungs$School" "kinds" "[I", .fieldLink RX3 15 "ThursdayRungs$School" "slips" "[I", .fieldLink RX3 18 "ThursdayRungs$School" "known" "[I", .arrayClass .boolean, .fieldLink RX3 21 "ThursdayRungs$School" "ill" "[Z", .fieldLink RX3 25 "ThursdayRungs$School" "heardChild" "[I", .fieldLink RX3 28 "ThursdayRungs$School" "heardKnew" "[I", .fieldLink RX3 31 "ThursdayRungs$School" "heardTaught" "[I", .fieldLink RX3 34 "ThursdayRungs$School" "size" "I", .fieldLink RX3 38 "ThursdayRungs$School" "heard" "I", .fieldLink RX3 41 "ThursdayRungs$School" "thursdays" "I", .fieldLink RX3 44 "ThursdayRungs$School" "timesTaught" "I"] ++ wsX30)
def wsX3_isNone : List Cond := .code yX3_isNone cX3_isNone 1 (some .boolean) :: ([.fieldLink RX3 34 "ThursdayRungs$School" "size" "I"] ++ wsX30)
def wsX3_has : List Cond := .code yX3_has cX3_has 2 (some .boolean) :: ([.fieldLink RX3 34 "ThursdayRungs$School" "size" "I"] ++ wsX30)
def wsX3_top : List Cond := .code yX3_top cX3_top 1 (some .int) :: ([.fieldLink RX3 34 "ThursdayRungs$School" "size" "I"] ++ wsX30)
def wsX3_readFrom_r1 : List Cond := [Cond.methodLink RX3 53 Lib.Math.min.name, Cond.static Lib.Math.min.name, Cond.initialized "java/lang/Math", Cond.code Lib.Math.min.name Lib.Math.min.code 2 (some .int), Cond.fieldLink RX3 34 "ThursdayRungs$School" "size" "I", Cond.fieldLink RX3 38 "ThursdayRungs$School" "heard" "I", Cond.fieldLink RX3 41 "ThursdayRungs$School" "thursdays" "I", Cond.fieldLink RX3 44 "ThursdayRungs$School" "timesTaught" "I", Cond.fieldLink RX3 11 "ThursdayRungs$School" "kinds" "[I", Cond.fieldLink RX3 15 "ThursdayRungs$School" "slips" "[I", Cond.fieldLink RX3 18 "ThursdayRungs$School" "known" "[I", Cond.fieldLink RX3 21 "ThursdayRungs$School" "ill" "[Z", Cond.methodLink RX3 47 yX2_children, Cond.instanceMethod yX2_children, Cond.selects RX2 yX2_children yX2_children, Cond.initialized RX2, Cond.code yX2_children cX2_children 1 (some .int), Cond.fieldLink RX2 13 "ThursdayRungs$Page" "size" "I", Cond.methodLink RX3 59 yX2_kindOf, Cond.instanceMethod yX2_kindOf, Cond.selects RX2 yX2_kindOf yX2_kindOf, Cond.code yX2_kindOf cX2_kindOf 2 (some .int), Cond.fieldLink RX2 9 "ThursdayRungs$Page" "codes" "[I", Cond.methodLink RX2 36 yJ0_indexOf_0f7a4]
def wsX3_readFrom_r2 : List Cond := [Cond.instanceMethod yJ0_indexOf_0f7a4, Cond.selects RJ0 yJ0_indexOf_0f7a4 yJ0_indexOf_0f7a4, Cond.initialized RJ0, Cond.code yJ0_indexOf_0f7a4 cJ0_indexOf_0f7a4 2 (some .int), Cond.methodLink RJ0 633 yJ0_indexOf_7cf53, Cond.instanceMethod yJ0_indexOf_7cf53, Cond.selects RJ0 yJ0_indexOf_7cf53 yJ0_indexOf_7cf53, Cond.code yJ0_indexOf_7cf53 cJ0_indexOf_7cf53 3 (some .int), Cond.fieldLink RJ0 9 "java/lang/String" "value" "[B", Cond.methodLink RJ0 492 yJ0_isLatin1_aae02, Cond.instanceMethod yJ0_isLatin1_aae02, Cond.selects RJ0 yJ0_isLatin1_aae02 yJ0_isLatin1_aae02, Cond.code yJ0_isLatin1_aae02 cJ0_isLatin1_aae02 1 (some .boolean), Cond.fieldLink RJ0 38 "java/lang/String" "COMPACT_STRINGS" "Z", Cond.fieldLink RJ0 15 "java/lang/String" "coder" "B", Cond.methodLink RJ0 505 yJ0_length_8abf5, Cond.instanceMethod yJ0_length_8abf5, Cond.selects RJ0 yJ0_length_8abf5 yJ0_length_8abf5, Cond.code yJ0_length_8abf5 cJ0_length_8abf5 1 (some .int), Cond.methodLink RJ0 335 yJ0_coder_7d493, Cond.instanceMethod yJ0_coder_7d493, Cond.selects RJ0 yJ0_coder_7d493 yJ0_coder_7d493, Cond.code yJ0_coder_7d493 cJ0_coder_7d493 1 (some .byte), Cond.methodLink RJ0 637 yJ1_indexOf_4cfef]
def wsX3_readFrom_r3 : List Cond := [Cond.static yJ1_indexOf_4cfef, Cond.initialized RJ1, Cond.code yJ1_indexOf_4cfef cJ1_indexOf_4cfef 4 (some .int), Cond.methodLink RJ1 92 Lib.Math.max.name, Cond.static Lib.Math.max.name, Cond.code Lib.Math.max.name Lib.Math.max.code 2 (some .int), Cond.methodLink RJ1 38 Lib.Math.min.name, Cond.methodLink RJ1 88 yJ1_canEncode_9a6ad, Cond.static yJ1_canEncode_9a6ad, Cond.code yJ1_canEncode_9a6ad cJ1_canEncode_9a6ad 1 (some .boolean), Cond.methodLink RJ1 95 yJ1_indexOfChar_4cfef, Cond.static yJ1_indexOfChar_4cfef, Cond.code yJ1_indexOfChar_4cfef cJ1_indexOfChar_4cfef 6 (some .int), Cond.methodLink RJ0 640 yJ2_indexOf_4cfef, Cond.static yJ2_indexOf_4cfef, Cond.initialized RJ2, Cond.code yJ2_indexOf_4cfef cJ2_indexOf_4cfef 4 (some .int), Cond.methodLink RJ2 224 Lib.Math.max.name, Cond.methodLink RJ2 183 Lib.Math.min.name, Cond.constant RJ2 227 (65536), Cond.methodLink RJ2 228 yJ2_indexOfChar_4cfef, Cond.static yJ2_indexOfChar_4cfef, Cond.code yJ2_indexOfChar_4cfef cJ2_indexOfChar_4cfef 4 (some .int), Cond.methodLink RJ2 96 yJ2_checkBoundsBeginEnd_d044e]
def wsX3_readFrom_r4 : List Cond := [Cond.static yJ2_checkBoundsBeginEnd_d044e, Cond.code yJ2_checkBoundsBeginEnd_d044e cJ2_checkBoundsBeginEnd_d044e 3 none, Cond.methodLink RJ2 48 yJ2_length_9d52b, Cond.static yJ2_length_9d52b, Cond.code yJ2_length_9d52b cJ2_length_9d52b 1 (some .int), Cond.methodLink RJ2 241 yJ0_checkBoundsBeginEnd_23922, Cond.static yJ0_checkBoundsBeginEnd_23922, Cond.code yJ0_checkBoundsBeginEnd_23922 cJ0_checkBoundsBeginEnd_23922 3 none, Cond.fieldLink RJ0 1053 "jdk/internal/util/Preconditions" "SIOOBE_FORMATTER" "Ljava/util/function/BiFunction;", Cond.methodLink RJ0 1062 yJ3_checkFromToIndex_8c36e, Cond.static yJ3_checkFromToIndex_8c36e, Cond.initialized RJ3, Cond.code yJ3_checkFromToIndex_8c36e cJ3_checkFromToIndex_8c36e 4 (some .int), Cond.methodLink RJ2 244 yJ2_indexOfCharUnsafe_4cfef, Cond.static yJ2_indexOfCharUnsafe_4cfef, Cond.code yJ2_indexOfCharUnsafe_4cfef cJ2_indexOfCharUnsafe_4cfef 5 (some .int), Cond.methodLink RJ2 71 yJ2_getChar_3b067, Cond.static yJ2_getChar_3b067, Cond.code yJ2_getChar_3b067 cJ2_getChar_3b067 2 (some .char), Cond.fieldLink RJ2 44 "java/lang/StringUTF16" "$assertionsDisabled" "Z", Cond.fieldLink RJ2 59 "java/lang/StringUTF16" "HI_BYTE_SHIFT" "I", Cond.fieldLink RJ2 63 "java/lang/StringUTF16" "LO_BYTE_SHIFT" "I", Cond.methodLink RJ2 232 yJ2_indexOfSupplementary_4cfef, Cond.static yJ2_indexOfSupplementary_4cfef]
def wsX3_readFrom_r5 : List Cond := [Cond.code yJ2_indexOfSupplementary_4cfef cJ2_indexOfSupplementary_4cfef 7 (some .int), Cond.methodLink RJ2 164 yJ11_isValidCodePoint_9a6ad, Cond.static yJ11_isValidCodePoint_9a6ad, Cond.initialized RJ11, Cond.code yJ11_isValidCodePoint_9a6ad cJ11_isValidCodePoint_9a6ad 2 (some .boolean), Cond.methodLink RJ2 157 yJ11_highSurrogate_5068e, Cond.static yJ11_highSurrogate_5068e, Cond.code yJ11_highSurrogate_5068e cJ11_highSurrogate_5068e 1 (some .char), Cond.constant RJ11 110 (55232), Cond.methodLink RJ2 161 yJ11_lowSurrogate_5068e, Cond.static yJ11_lowSurrogate_5068e, Cond.code yJ11_lowSurrogate_5068e cJ11_lowSurrogate_5068e 1 (some .char), Cond.constant RJ11 76 (56320), Cond.methodLink RX3 63 yX2_slipOf, Cond.instanceMethod yX2_slipOf, Cond.selects RX2 yX2_slipOf yX2_slipOf, Cond.code yX2_slipOf cX2_slipOf 2 (some .int)]
def wsX3_readFrom : List Cond := .code yX3_readFrom cX3_readFrom 3 none :: ((wsX3_readFrom_r1 ++ (wsX3_readFrom_r2 ++ (wsX3_readFrom_r3 ++ (wsX3_readFrom_r4 ++ wsX3_readFrom_r5)))) ++ wsX30 ++ wsX20)
def wsX3_copyFrom : List Cond := .code yX3_copyFrom cX3_copyFrom 2 none :: ([.fieldLink RX3 34 "ThursdayRungs$School" "size" "I", .fieldLink RX3 38 "ThursdayRungs$School" "heard" "I", .fieldLink RX3 41 "ThursdayRungs$School" "thursdays" "I", .fieldLink RX3 44 "ThursdayRungs$School" "timesTaught" "I", .fieldLink RX3 11 "ThursdayRungs$School" "kinds" "[I", .methodLink RX3 66 arraycopyName, .native arraycopyName, .static arraycopyName, .initialized "java/lang/System", .fieldLink RX3 15 "ThursdayRungs$School" "slips" "[I", .fieldLink RX3 18 "ThursdayRungs$School" "known" "[I", .fieldLink RX3 21 "ThursdayRungs$School" "ill" "[Z", .fieldLink RX3 25 "ThursdayRungs$School" "heardChild" "[I", .fieldLink RX3 28 "ThursdayRungs$School" "heardKnew" "[I", .fieldLink RX3 31 "ThursdayRungs$School" "heardTaught" "[I"] ++ wsX30)
def wsX3_taughtNowBy : List Cond := .code yX3_taughtNowBy cX3_taughtNowBy 2 (some .int) :: ([.fieldLink RX3 18 "ThursdayRungs$School" "known" "[I", .fieldLink RX3 21 "ThursdayRungs$School" "ill" "[Z", .fieldLink RX3 11 "ThursdayRungs$School" "kinds" "[I", .fieldLink RX3 15 "ThursdayRungs$School" "slips" "[I", .methodLink RX3 72 yX1_passesOn, .static yX1_passesOn, .initialized RX1, .code yX1_passesOn cX1_passesOn 3 (some .int)] ++ wsX30)
def wsX3_isTaughtNext : List Cond := .code yX3_isTaughtNext cX3_isTaughtNext 2 (some .boolean) :: ([.fieldLink RX3 21 "ThursdayRungs$School" "ill" "[Z", .methodLink RX3 78 yX3_taughtNowBy, .instanceMethod yX3_taughtNowBy, .selects RX3 yX3_taughtNowBy yX3_taughtNowBy, .initialized RX3, .code yX3_taughtNowBy cX3_taughtNowBy 2 (some .int), .fieldLink RX3 18 "ThursdayRungs$School" "known" "[I", .fieldLink RX3 11 "ThursdayRungs$School" "kinds" "[I", .fieldLink RX3 15 "ThursdayRungs$School" "slips" "[I", .methodLink RX3 72 yX1_passesOn, .static yX1_passesOn, .initialized RX1, .code yX1_passesOn cX1_passesOn 3 (some .int)] ++ wsX30)
def wsX3_holdThursday : List Cond := .code yX3_holdThursday cX3_holdThursday 3 (some .int) :: ([.fieldLink RX3 18 "ThursdayRungs$School" "known" "[I", .fieldLink RX3 41 "ThursdayRungs$School" "thursdays" "I", .fieldLink RX3 44 "ThursdayRungs$School" "timesTaught" "I", .methodLink RX3 81 yX3_top, .instanceMethod yX3_top, .selects RX3 yX3_top yX3_top, .initialized RX3, .code yX3_top cX3_top 1 (some .int), .fieldLink RX3 34 "ThursdayRungs$School" "size" "I", .methodLink RX3 84 yX3_isTaughtNext, .instanceMethod yX3_isTaughtNext, .selects RX3 yX3_isTaughtNext yX3_isTaughtNext, .code yX3_isTaughtNext cX3_isTaughtNext 2 (some .boolean), .fieldLink RX3 21 "ThursdayRungs$School" "ill" "[Z", .methodLink RX3 78 yX3_taughtNowBy, .instanceMethod yX3_taughtNowBy, .selects RX3 yX3_taughtNowBy yX3_taughtNowBy, .code yX3_taughtNowBy cX3_taughtNowBy 2 (some .int), .fieldLink RX3 11 "ThursdayRungs$School" "kinds" "[I", .fieldLink RX3 15 "ThursdayRungs$School" "slips" "[I", .methodLink RX3 72 yX1_passesOn, .static yX1_passesOn, .initialized RX1, .code yX1_passesOn cX1_passesOn 3 (some .int)] ++ wsX30)
def wsX3_beginAnew : List Cond := .code yX3_beginAnew cX3_beginAnew 4 none :: ([.fieldLink RX3 18 "ThursdayRungs$School" "known" "[I", .fieldLink RX3 34 "ThursdayRungs$School" "size" "I", .fieldLink RX3 21 "ThursdayRungs$School" "ill" "[Z", .methodLink RX3 88 yX0_next, .instanceMethod yX0_next, .selects RX0 yX0_next yX0_next, .initialized RX0, .code yX0_next cX0_next 2 (some .int), .constantLong RX0 13 (1103515245), .fieldLink RX0 7 "ThursdayRungs$Draws" "seed" "J", .constantLong RX0 15 (12345), .constantLong RX0 17 (2147483648), .constantLong RX0 19 (65536)] ++ wsX30 ++ wsX00)
def wsX3_atTop : List Cond := .code yX3_atTop cX3_atTop 6 (some .int) :: ([.fieldLink RX3 11 "ThursdayRungs$School" "kinds" "[I", .fieldLink RX3 15 "ThursdayRungs$School" "slips" "[I", .methodLink RX3 81 yX3_top, .instanceMethod yX3_top, .selects RX3 yX3_top yX3_top, .initialized RX3, .code yX3_top cX3_top 1 (some .int), .fieldLink RX3 34 "ThursdayRungs$School" "size" "I", .methodLink RX3 72 yX1_passesOn, .static yX1_passesOn, .initialized RX1, .code yX1_passesOn cX1_passesOn 3 (some .int)] ++ wsX30)
def wsX3_sourcesOf : List Cond := .code yX3_sourcesOf cX3_sourcesOf 5 (some .int) :: ([.methodLink RX3 93 yX3_atTop, .instanceMethod yX3_atTop, .selects RX3 yX3_atTop yX3_atTop, .initialized RX3, .code yX3_atTop cX3_atTop 6 (some .int), .fieldLink RX3 11 "ThursdayRungs$School" "kinds" "[I", .fieldLink RX3 15 "ThursdayRungs$School" "slips" "[I", .methodLink RX3 81 yX3_top, .instanceMethod yX3_top, .selects RX3 yX3_top yX3_top, .code yX3_top cX3_top 1 (some .int), .fieldLink RX3 34 "ThursdayRungs$School" "size" "I", .methodLink RX3 72 yX1_passesOn, .static yX1_passesOn, .initialized RX1, .code yX1_passesOn cX1_passesOn 3 (some .int)] ++ wsX30)
def wsX3_unchangedAtTop : List Cond := .code yX3_unchangedAtTop cX3_unchangedAtTop 4 (some .int) :: ([.methodLink RX3 93 yX3_atTop, .instanceMethod yX3_atTop, .selects RX3 yX3_atTop yX3_atTop, .initialized RX3, .code yX3_atTop cX3_atTop 6 (some .int), .fieldLink RX3 11 "ThursdayRungs$School" "kinds" "[I", .fieldLink RX3 15 "ThursdayRungs$School" "slips" "[I", .methodLink RX3 81 yX3_top, .instanceMethod yX3_top, .selects RX3 yX3_top yX3_top, .code yX3_top cX3_top 1 (some .int), .fieldLink RX3 34 "ThursdayRungs$School" "size" "I", .methodLink RX3 72 yX1_passesOn, .static yX1_passesOn, .initialized RX1, .code yX1_passesOn cX1_passesOn 3 (some .int)] ++ wsX30)
def wsX3_bestToCure : List Cond := .code yX3_bestToCure cX3_bestToCure 5 (some .int) :: ([.fieldLink RX3 34 "ThursdayRungs$School" "size" "I", .methodLink RX3 96 yX3_unchangedAtTop, .instanceMethod yX3_unchangedAtTop, .selects RX3 yX3_unchangedAtTop yX3_unchangedAtTop, .initialized RX3, .code yX3_unchangedAtTop cX3_unchangedAtTop 4 (some .int), .methodLink RX3 93 yX3_atTop, .instanceMethod yX3_atTop, .selects RX3 yX3_atTop yX3_atTop, .code yX3_atTop cX3_atTop 6 (some .int), .fieldLink RX3 11 "ThursdayRungs$School" "kinds" "[I", .fieldLink RX3 15 "ThursdayRungs$School" "slips" "[I", .methodLink RX3 81 yX3_top, .instanceMethod yX3_top, .selects RX3 yX3_top yX3_top, .code yX3_top cX3_top 1 (some .int), .methodLink RX3 72 yX1_passesOn, .static yX1_passesOn, .initialized RX1, .code yX1_passesOn cX1_passesOn 3 (some .int)] ++ wsX30)
def wsX3_thursdaysToTop : List Cond := .code yX3_thursdaysToTop cX3_thursdaysToTop 2 (some .int) :: ([.fieldLink RX3 18 "ThursdayRungs$School" "known" "[I", .fieldLink RX3 21 "ThursdayRungs$School" "ill" "[Z", .methodLink RX3 99 yX3_isNone, .instanceMethod yX3_isNone, .selects RX3 yX3_isNone yX3_isNone, .initialized RX3, .code yX3_isNone cX3_isNone 1 (some .boolean), .fieldLink RX3 34 "ThursdayRungs$School" "size" "I", .methodLink RX3 81 yX3_top, .instanceMethod yX3_top, .selects RX3 yX3_top yX3_top, .code yX3_top cX3_top 1 (some .int)] ++ wsX30)
def wsX3_isHeardFull : List Cond := .code yX3_isHeardFull cX3_isHeardFull 1 (some .boolean) :: ([.fieldLink RX3 38 "ThursdayRungs$School" "heard" "I"] ++ wsX30)
def wsX3_addHeard : List Cond := .code yX3_addHeard cX3_addHeard 4 none :: ([.fieldLink RX3 25 "ThursdayRungs$School" "heardChild" "[I", .fieldLink RX3 38 "ThursdayRungs$School" "heard" "I", .fieldLink RX3 28 "ThursdayRungs$School" "heardKnew" "[I", .fieldLink RX3 31 "ThursdayRungs$School" "heardTaught" "[I", .methodLink RX3 103 yX3_isHeardFull, .instanceMethod yX3_isHeardFull, .selects RX3 yX3_isHeardFull yX3_isHeardFull, .initialized RX3, .code yX3_isHeardFull cX3_isHeardFull 1 (some .boolean)] ++ wsX30)
def wsX3_explainsHeard : List Cond := .code yX3_explainsHeard cX3_explainsHeard 4 (some .boolean) :: ([.fieldLink RX3 38 "ThursdayRungs$School" "heard" "I", .fieldLink RX3 25 "ThursdayRungs$School" "heardChild" "[I", .fieldLink RX3 11 "ThursdayRungs$School" "kinds" "[I", .fieldLink RX3 28 "ThursdayRungs$School" "heardKnew" "[I", .fieldLink RX3 31 "ThursdayRungs$School" "heardTaught" "[I", .methodLink RX3 72 yX1_passesOn, .static yX1_passesOn, .initialized RX1, .code yX1_passesOn cX1_passesOn 3 (some .int)] ++ wsX30)
def wsX3_possibleSlips : List Cond := .code yX3_possibleSlips cX3_possibleSlips 4 (some .int) :: ([.methodLink RX3 106 yX3_explainsHeard, .instanceMethod yX3_explainsHeard, .selects RX3 yX3_explainsHeard yX3_explainsHeard, .initialized RX3, .code yX3_explainsHeard cX3_explainsHeard 4 (some .boolean), .fieldLink RX3 38 "ThursdayRungs$School" "heard" "I", .fieldLink RX3 25 "ThursdayRungs$School" "heardChild" "[I", .fieldLink RX3 11 "ThursdayRungs$School" "kinds" "[I", .fieldLink RX3 28 "ThursdayRungs$School" "heardKnew" "[I", .fieldLink RX3 31 "ThursdayRungs$School" "heardTaught" "[I", .methodLink RX3 72 yX1_passesOn, .static yX1_passesOn, .initialized RX1, .code yX1_passesOn cX1_passesOn 3 (some .int)] ++ wsX30)
def wsX3_leftBy : List Cond := .code yX3_leftBy cX3_leftBy 6 (some .int) :: ([.methodLink RX3 72 yX1_passesOn, .static yX1_passesOn, .initialized RX1, .code yX1_passesOn cX1_passesOn 3 (some .int)])
def wsX3_worstLeft : List Cond := .code yX3_worstLeft cX3_worstLeft 5 (some .int) :: ([.methodLink RX3 120 Lib.Math.max.name, .static Lib.Math.max.name, .initialized "java/lang/Math", .code Lib.Math.max.name Lib.Math.max.code 2 (some .int), .methodLink RX3 116 yX3_leftBy, .static yX3_leftBy, .initialized RX3, .code yX3_leftBy cX3_leftBy 6 (some .int), .methodLink RX3 72 yX1_passesOn, .static yX1_passesOn, .initialized RX1, .code yX1_passesOn cX1_passesOn 3 (some .int)])
def wsX3_bestQuestion_r1 : List Cond := [Cond.fieldLink RX3 11 "ThursdayRungs$School" "kinds" "[I", Cond.methodLink RX3 110 yX3_possibleSlips, Cond.instanceMethod yX3_possibleSlips, Cond.selects RX3 yX3_possibleSlips yX3_possibleSlips, Cond.initialized RX3, Cond.code yX3_possibleSlips cX3_possibleSlips 4 (some .int), Cond.methodLink RX3 106 yX3_explainsHeard, Cond.instanceMethod yX3_explainsHeard, Cond.selects RX3 yX3_explainsHeard yX3_explainsHeard, Cond.code yX3_explainsHeard cX3_explainsHeard 4 (some .boolean), Cond.fieldLink RX3 38 "ThursdayRungs$School" "heard" "I", Cond.fieldLink RX3 25 "ThursdayRungs$School" "heardChild" "[I", Cond.fieldLink RX3 28 "ThursdayRungs$School" "heardKnew" "[I", Cond.fieldLink RX3 31 "ThursdayRungs$School" "heardTaught" "[I", Cond.methodLink RX3 72 yX1_passesOn, Cond.static yX1_passesOn, Cond.initialized RX1, Cond.code yX1_passesOn cX1_passesOn 3 (some .int), Cond.methodLink RX3 113 yX3_worstLeft, Cond.static yX3_worstLeft, Cond.code yX3_worstLeft cX3_worstLeft 5 (some .int), Cond.methodLink RX3 120 Lib.Math.max.name, Cond.static Lib.Math.max.name, Cond.initialized "java/lang/Math"]
def wsX3_bestQuestion_r2 : List Cond := [Cond.code Lib.Math.max.name Lib.Math.max.code 2 (some .int), Cond.methodLink RX3 116 yX3_leftBy, Cond.static yX3_leftBy, Cond.code yX3_leftBy cX3_leftBy 6 (some .int)]
def wsX3_bestQuestion : List Cond := .code yX3_bestQuestion cX3_bestQuestion 7 (some .int) :: ((wsX3_bestQuestion_r1 ++ wsX3_bestQuestion_r2) ++ wsX30)
def wsX3_knowing : List Cond := .code yX3_knowing cX3_knowing 3 (some .int) :: ([.fieldLink RX3 34 "ThursdayRungs$School" "size" "I", .fieldLink RX3 18 "ThursdayRungs$School" "known" "[I"] ++ wsX30)
def wsJ6_bitCount_0f7a4 : List Cond := .code yJ6_bitCount_0f7a4 cJ6_bitCount_0f7a4 1 (some .int) :: ([.constant RJ6 265 (1431655765), .constant RJ6 266 (858993459), .constant RJ6 267 (252645135)])
def wsX3_unlikeRules : List Cond := .code yX3_unlikeRules cX3_unlikeRules 3 (some .int) :: ([.fieldLink RX3 34 "ThursdayRungs$School" "size" "I", .fieldLink RX3 18 "ThursdayRungs$School" "known" "[I", .methodLink RX3 123 yJ6_bitCount_0f7a4, .static yJ6_bitCount_0f7a4, .initialized RJ6, .code yJ6_bitCount_0f7a4 cJ6_bitCount_0f7a4 1 (some .int), .constant RJ6 265 (1431655765), .constant RJ6 266 (858993459), .constant RJ6 267 (252645135)] ++ wsX30)
def wsX3_illOnes : List Cond := .code yX3_illOnes cX3_illOnes 3 (some .int) :: ([.fieldLink RX3 34 "ThursdayRungs$School" "size" "I", .fieldLink RX3 21 "ThursdayRungs$School" "ill" "[Z"] ++ wsX30)
def wsX4_init_r1 : List Cond := [Cond.methodLink RX4 1 objectInit, Cond.instanceMethod objectInit, Cond.code objectInit ⟨#[0xb1]⟩ 1 none, Cond.classLink RX4 7 RX2, Cond.instantiable RX2 2, Cond.initialized RX2, Cond.fieldLink RX4 10 "ThursdayRungs" "page" "LThursdayRungs$Page;", Cond.classLink RX4 16 RX3, Cond.instantiable RX3 11, Cond.initialized RX3, Cond.fieldLink RX4 19 "ThursdayRungs" "school" "LThursdayRungs$School;", Cond.fieldLink RX4 23 "ThursdayRungs" "kept" "LThursdayRungs$School;", Cond.fieldLink RX4 26 "ThursdayRungs" "trial" "LThursdayRungs$School;", Cond.classLink RX4 29 RX0, Cond.instantiable RX0 1, Cond.initialized RX0, Cond.fieldLink RX4 32 "ThursdayRungs" "draws" "LThursdayRungs$Draws;", Cond.fieldLink RX4 36 "ThursdayRungs" "schoolsRead" "I", Cond.instanceMethod yX2_init, Cond.code yX2_init cX2_init 1 none, Cond.methodLink RX2 1 objectInit, Cond.arrayClass .int, Cond.fieldLink RX2 9 "ThursdayRungs$Page" "codes" "[I", Cond.fieldLink RX2 13 "ThursdayRungs$Page" "size" "I"]
def wsX4_init_r2 : List Cond := [Cond.instanceMethod yX3_init, Cond.code yX3_init cX3_init 1 none, Cond.methodLink RX3 3 objectInit, Cond.fieldLink RX3 11 "ThursdayRungs$School" "kinds" "[I", Cond.fieldLink RX3 15 "ThursdayRungs$School" "slips" "[I", Cond.fieldLink RX3 18 "ThursdayRungs$School" "known" "[I", Cond.arrayClass .boolean, Cond.fieldLink RX3 21 "ThursdayRungs$School" "ill" "[Z", Cond.fieldLink RX3 25 "ThursdayRungs$School" "heardChild" "[I", Cond.fieldLink RX3 28 "ThursdayRungs$School" "heardKnew" "[I", Cond.fieldLink RX3 31 "ThursdayRungs$School" "heardTaught" "[I", Cond.fieldLink RX3 34 "ThursdayRungs$School" "size" "I", Cond.fieldLink RX3 38 "ThursdayRungs$School" "heard" "I", Cond.fieldLink RX3 41 "ThursdayRungs$School" "thursdays" "I", Cond.fieldLink RX3 44 "ThursdayRungs$School" "timesTaught" "I", Cond.instanceMethod yX0_init, Cond.code yX0_init cX0_init 1 none, Cond.methodLink RX0 1 objectInit, Cond.fieldLink RX0 7 "ThursdayRungs$Draws" "seed" "J"]
def wsX4_init : List Cond := .code yX4_init cX4_init 1 none :: ((wsX4_init_r1 ++ wsX4_init_r2) ++ wsX20 ++ wsX40 ++ wsX30 ++ wsX00)
def wsX4_letter : List Cond := .code yX4_letter cX4_letter 2 (some .int) :: ([.fieldLink RX4 10 "ThursdayRungs" "page" "LThursdayRungs$Page;", .fieldLink RX4 48 "ThursdayRungs$Page" "size" "I", .methodLink RX4 40 yX2_isFull, .instanceMethod yX2_isFull, .selects RX2 yX2_isFull yX2_isFull, .initialized RX2, .code yX2_isFull cX2_isFull 1 (some .boolean), .fieldLink RX2 13 "ThursdayRungs$Page" "size" "I", .methodLink RX4 44 yX2_add, .instanceMethod yX2_add, .selects RX2 yX2_add yX2_add, .code yX2_add cX2_add 2 none, .fieldLink RX2 9 "ThursdayRungs$Page" "codes" "[I", .methodLink RX2 17 yX2_isFull] ++ wsX40 ++ wsX20)
def wsX4_blank : List Cond := .code yX4_blank cX4_blank 2 (some .int) :: ([.fieldLink RX4 10 "ThursdayRungs" "page" "LThursdayRungs$Page;", .fieldLink RX4 48 "ThursdayRungs$Page" "size" "I"] ++ wsX40 ++ wsX20)
def wsX4_fault_r1 : List Cond := [Cond.fieldLink RX4 10 "ThursdayRungs" "page" "LThursdayRungs$Page;", Cond.methodLink RX4 51 yX2_firstMisfit, Cond.instanceMethod yX2_firstMisfit, Cond.selects RX2 yX2_firstMisfit yX2_firstMisfit, Cond.initialized RX2, Cond.code yX2_firstMisfit cX2_firstMisfit 2 (some .int), Cond.fieldLink RX2 13 "ThursdayRungs$Page" "size" "I", Cond.methodLink RX2 21 yX2_fits, Cond.instanceMethod yX2_fits, Cond.selects RX2 yX2_fits yX2_fits, Cond.code yX2_fits cX2_fits 3 (some .boolean), Cond.fieldLink RX2 9 "ThursdayRungs$Page" "codes" "[I", Cond.methodLink RX2 36 yJ0_indexOf_0f7a4, Cond.instanceMethod yJ0_indexOf_0f7a4, Cond.selects RJ0 yJ0_indexOf_0f7a4 yJ0_indexOf_0f7a4, Cond.initialized RJ0, Cond.code yJ0_indexOf_0f7a4 cJ0_indexOf_0f7a4 2 (some .int), Cond.methodLink RJ0 633 yJ0_indexOf_7cf53, Cond.instanceMethod yJ0_indexOf_7cf53, Cond.selects RJ0 yJ0_indexOf_7cf53 yJ0_indexOf_7cf53, Cond.code yJ0_indexOf_7cf53 cJ0_indexOf_7cf53 3 (some .int), Cond.fieldLink RJ0 9 "java/lang/String" "value" "[B", Cond.methodLink RJ0 492 yJ0_isLatin1_aae02, Cond.instanceMethod yJ0_isLatin1_aae02]
def wsX4_fault_r2 : List Cond := [Cond.selects RJ0 yJ0_isLatin1_aae02 yJ0_isLatin1_aae02, Cond.code yJ0_isLatin1_aae02 cJ0_isLatin1_aae02 1 (some .boolean), Cond.fieldLink RJ0 38 "java/lang/String" "COMPACT_STRINGS" "Z", Cond.fieldLink RJ0 15 "java/lang/String" "coder" "B", Cond.methodLink RJ0 505 yJ0_length_8abf5, Cond.instanceMethod yJ0_length_8abf5, Cond.selects RJ0 yJ0_length_8abf5 yJ0_length_8abf5, Cond.code yJ0_length_8abf5 cJ0_length_8abf5 1 (some .int), Cond.methodLink RJ0 335 yJ0_coder_7d493, Cond.instanceMethod yJ0_coder_7d493, Cond.selects RJ0 yJ0_coder_7d493 yJ0_coder_7d493, Cond.code yJ0_coder_7d493 cJ0_coder_7d493 1 (some .byte), Cond.methodLink RJ0 637 yJ1_indexOf_4cfef, Cond.static yJ1_indexOf_4cfef, Cond.initialized RJ1, Cond.code yJ1_indexOf_4cfef cJ1_indexOf_4cfef 4 (some .int), Cond.methodLink RJ1 92 Lib.Math.max.name, Cond.static Lib.Math.max.name, Cond.initialized "java/lang/Math", Cond.code Lib.Math.max.name Lib.Math.max.code 2 (some .int), Cond.methodLink RJ1 38 Lib.Math.min.name, Cond.static Lib.Math.min.name, Cond.code Lib.Math.min.name Lib.Math.min.code 2 (some .int), Cond.methodLink RJ1 88 yJ1_canEncode_9a6ad]
def wsX4_fault_r3 : List Cond := [Cond.static yJ1_canEncode_9a6ad, Cond.code yJ1_canEncode_9a6ad cJ1_canEncode_9a6ad 1 (some .boolean), Cond.methodLink RJ1 95 yJ1_indexOfChar_4cfef, Cond.static yJ1_indexOfChar_4cfef, Cond.code yJ1_indexOfChar_4cfef cJ1_indexOfChar_4cfef 6 (some .int), Cond.methodLink RJ0 640 yJ2_indexOf_4cfef, Cond.static yJ2_indexOf_4cfef, Cond.initialized RJ2, Cond.code yJ2_indexOf_4cfef cJ2_indexOf_4cfef 4 (some .int), Cond.methodLink RJ2 224 Lib.Math.max.name, Cond.methodLink RJ2 183 Lib.Math.min.name, Cond.constant RJ2 227 (65536), Cond.methodLink RJ2 228 yJ2_indexOfChar_4cfef, Cond.static yJ2_indexOfChar_4cfef, Cond.code yJ2_indexOfChar_4cfef cJ2_indexOfChar_4cfef 4 (some .int), Cond.methodLink RJ2 96 yJ2_checkBoundsBeginEnd_d044e, Cond.static yJ2_checkBoundsBeginEnd_d044e, Cond.code yJ2_checkBoundsBeginEnd_d044e cJ2_checkBoundsBeginEnd_d044e 3 none, Cond.methodLink RJ2 48 yJ2_length_9d52b, Cond.static yJ2_length_9d52b, Cond.code yJ2_length_9d52b cJ2_length_9d52b 1 (some .int), Cond.methodLink RJ2 241 yJ0_checkBoundsBeginEnd_23922, Cond.static yJ0_checkBoundsBeginEnd_23922, Cond.code yJ0_checkBoundsBeginEnd_23922 cJ0_checkBoundsBeginEnd_23922 3 none]
def wsX4_fault_r4 : List Cond := [Cond.fieldLink RJ0 1053 "jdk/internal/util/Preconditions" "SIOOBE_FORMATTER" "Ljava/util/function/BiFunction;", Cond.methodLink RJ0 1062 yJ3_checkFromToIndex_8c36e, Cond.static yJ3_checkFromToIndex_8c36e, Cond.initialized RJ3, Cond.code yJ3_checkFromToIndex_8c36e cJ3_checkFromToIndex_8c36e 4 (some .int), Cond.methodLink RJ2 244 yJ2_indexOfCharUnsafe_4cfef, Cond.static yJ2_indexOfCharUnsafe_4cfef, Cond.code yJ2_indexOfCharUnsafe_4cfef cJ2_indexOfCharUnsafe_4cfef 5 (some .int), Cond.methodLink RJ2 71 yJ2_getChar_3b067, Cond.static yJ2_getChar_3b067, Cond.code yJ2_getChar_3b067 cJ2_getChar_3b067 2 (some .char), Cond.fieldLink RJ2 44 "java/lang/StringUTF16" "$assertionsDisabled" "Z", Cond.fieldLink RJ2 59 "java/lang/StringUTF16" "HI_BYTE_SHIFT" "I", Cond.fieldLink RJ2 63 "java/lang/StringUTF16" "LO_BYTE_SHIFT" "I", Cond.methodLink RJ2 232 yJ2_indexOfSupplementary_4cfef, Cond.static yJ2_indexOfSupplementary_4cfef, Cond.code yJ2_indexOfSupplementary_4cfef cJ2_indexOfSupplementary_4cfef 7 (some .int), Cond.methodLink RJ2 164 yJ11_isValidCodePoint_9a6ad, Cond.static yJ11_isValidCodePoint_9a6ad, Cond.initialized RJ11, Cond.code yJ11_isValidCodePoint_9a6ad cJ11_isValidCodePoint_9a6ad 2 (some .boolean), Cond.methodLink RJ2 157 yJ11_highSurrogate_5068e, Cond.static yJ11_highSurrogate_5068e, Cond.code yJ11_highSurrogate_5068e cJ11_highSurrogate_5068e 1 (some .char)]
def wsX4_fault_r5 : List Cond := [Cond.constant RJ11 110 (55232), Cond.methodLink RJ2 161 yJ11_lowSurrogate_5068e, Cond.static yJ11_lowSurrogate_5068e, Cond.code yJ11_lowSurrogate_5068e cJ11_lowSurrogate_5068e 1 (some .char), Cond.constant RJ11 76 (56320)]
def wsX4_fault : List Cond := .code yX4_fault cX4_fault 1 (some .int) :: ((wsX4_fault_r1 ++ (wsX4_fault_r2 ++ (wsX4_fault_r3 ++ (wsX4_fault_r4 ++ wsX4_fault_r5)))) ++ wsX40 ++ wsX20)
def wsX4_school_r1 : List Cond := [Cond.fieldLink RX4 10 "ThursdayRungs" "page" "LThursdayRungs$Page;", Cond.fieldLink RX4 19 "ThursdayRungs" "school" "LThursdayRungs$School;", Cond.fieldLink RX4 48 "ThursdayRungs$Page" "size" "I", Cond.fieldLink RX4 23 "ThursdayRungs" "kept" "LThursdayRungs$School;", Cond.fieldLink RX4 62 "ThursdayRungs$School" "size" "I", Cond.fieldLink RX4 36 "ThursdayRungs" "schoolsRead" "I", Cond.methodLink RX4 55 yX2_isSchool, Cond.instanceMethod yX2_isSchool, Cond.selects RX2 yX2_isSchool yX2_isSchool, Cond.initialized RX2, Cond.code yX2_isSchool cX2_isSchool 1 (some .boolean), Cond.fieldLink RX2 13 "ThursdayRungs$Page" "size" "I", Cond.methodLink RX2 25 yX2_children, Cond.instanceMethod yX2_children, Cond.selects RX2 yX2_children yX2_children, Cond.code yX2_children cX2_children 1 (some .int), Cond.methodLink RX2 29 yX2_firstMisfit, Cond.instanceMethod yX2_firstMisfit, Cond.selects RX2 yX2_firstMisfit yX2_firstMisfit, Cond.code yX2_firstMisfit cX2_firstMisfit 2 (some .int), Cond.methodLink RX2 21 yX2_fits, Cond.instanceMethod yX2_fits, Cond.selects RX2 yX2_fits yX2_fits, Cond.code yX2_fits cX2_fits 3 (some .boolean)]
def wsX4_school_r2 : List Cond := [Cond.fieldLink RX2 9 "ThursdayRungs$Page" "codes" "[I", Cond.methodLink RX2 36 yJ0_indexOf_0f7a4, Cond.instanceMethod yJ0_indexOf_0f7a4, Cond.selects RJ0 yJ0_indexOf_0f7a4 yJ0_indexOf_0f7a4, Cond.initialized RJ0, Cond.code yJ0_indexOf_0f7a4 cJ0_indexOf_0f7a4 2 (some .int), Cond.methodLink RJ0 633 yJ0_indexOf_7cf53, Cond.instanceMethod yJ0_indexOf_7cf53, Cond.selects RJ0 yJ0_indexOf_7cf53 yJ0_indexOf_7cf53, Cond.code yJ0_indexOf_7cf53 cJ0_indexOf_7cf53 3 (some .int), Cond.fieldLink RJ0 9 "java/lang/String" "value" "[B", Cond.methodLink RJ0 492 yJ0_isLatin1_aae02, Cond.instanceMethod yJ0_isLatin1_aae02, Cond.selects RJ0 yJ0_isLatin1_aae02 yJ0_isLatin1_aae02, Cond.code yJ0_isLatin1_aae02 cJ0_isLatin1_aae02 1 (some .boolean), Cond.fieldLink RJ0 38 "java/lang/String" "COMPACT_STRINGS" "Z", Cond.fieldLink RJ0 15 "java/lang/String" "coder" "B", Cond.methodLink RJ0 505 yJ0_length_8abf5, Cond.instanceMethod yJ0_length_8abf5, Cond.selects RJ0 yJ0_length_8abf5 yJ0_length_8abf5, Cond.code yJ0_length_8abf5 cJ0_length_8abf5 1 (some .int), Cond.methodLink RJ0 335 yJ0_coder_7d493, Cond.instanceMethod yJ0_coder_7d493, Cond.selects RJ0 yJ0_coder_7d493 yJ0_coder_7d493]
def wsX4_school_r3 : List Cond := [Cond.code yJ0_coder_7d493 cJ0_coder_7d493 1 (some .byte), Cond.methodLink RJ0 637 yJ1_indexOf_4cfef, Cond.static yJ1_indexOf_4cfef, Cond.initialized RJ1, Cond.code yJ1_indexOf_4cfef cJ1_indexOf_4cfef 4 (some .int), Cond.methodLink RJ1 92 Lib.Math.max.name, Cond.static Lib.Math.max.name, Cond.initialized "java/lang/Math", Cond.code Lib.Math.max.name Lib.Math.max.code 2 (some .int), Cond.methodLink RJ1 38 Lib.Math.min.name, Cond.static Lib.Math.min.name, Cond.code Lib.Math.min.name Lib.Math.min.code 2 (some .int), Cond.methodLink RJ1 88 yJ1_canEncode_9a6ad, Cond.static yJ1_canEncode_9a6ad, Cond.code yJ1_canEncode_9a6ad cJ1_canEncode_9a6ad 1 (some .boolean), Cond.methodLink RJ1 95 yJ1_indexOfChar_4cfef, Cond.static yJ1_indexOfChar_4cfef, Cond.code yJ1_indexOfChar_4cfef cJ1_indexOfChar_4cfef 6 (some .int), Cond.methodLink RJ0 640 yJ2_indexOf_4cfef, Cond.static yJ2_indexOf_4cfef, Cond.initialized RJ2, Cond.code yJ2_indexOf_4cfef cJ2_indexOf_4cfef 4 (some .int), Cond.methodLink RJ2 224 Lib.Math.max.name, Cond.methodLink RJ2 183 Lib.Math.min.name]
def wsX4_school_r4 : List Cond := [Cond.constant RJ2 227 (65536), Cond.methodLink RJ2 228 yJ2_indexOfChar_4cfef, Cond.static yJ2_indexOfChar_4cfef, Cond.code yJ2_indexOfChar_4cfef cJ2_indexOfChar_4cfef 4 (some .int), Cond.methodLink RJ2 96 yJ2_checkBoundsBeginEnd_d044e, Cond.static yJ2_checkBoundsBeginEnd_d044e, Cond.code yJ2_checkBoundsBeginEnd_d044e cJ2_checkBoundsBeginEnd_d044e 3 none, Cond.methodLink RJ2 48 yJ2_length_9d52b, Cond.static yJ2_length_9d52b, Cond.code yJ2_length_9d52b cJ2_length_9d52b 1 (some .int), Cond.methodLink RJ2 241 yJ0_checkBoundsBeginEnd_23922, Cond.static yJ0_checkBoundsBeginEnd_23922, Cond.code yJ0_checkBoundsBeginEnd_23922 cJ0_checkBoundsBeginEnd_23922 3 none, Cond.fieldLink RJ0 1053 "jdk/internal/util/Preconditions" "SIOOBE_FORMATTER" "Ljava/util/function/BiFunction;", Cond.methodLink RJ0 1062 yJ3_checkFromToIndex_8c36e, Cond.static yJ3_checkFromToIndex_8c36e, Cond.initialized RJ3, Cond.code yJ3_checkFromToIndex_8c36e cJ3_checkFromToIndex_8c36e 4 (some .int), Cond.methodLink RJ2 244 yJ2_indexOfCharUnsafe_4cfef, Cond.static yJ2_indexOfCharUnsafe_4cfef, Cond.code yJ2_indexOfCharUnsafe_4cfef cJ2_indexOfCharUnsafe_4cfef 5 (some .int), Cond.methodLink RJ2 71 yJ2_getChar_3b067, Cond.static yJ2_getChar_3b067, Cond.code yJ2_getChar_3b067 cJ2_getChar_3b067 2 (some .char)]
def wsX4_school_r5 : List Cond := [Cond.fieldLink RJ2 44 "java/lang/StringUTF16" "$assertionsDisabled" "Z", Cond.fieldLink RJ2 59 "java/lang/StringUTF16" "HI_BYTE_SHIFT" "I", Cond.fieldLink RJ2 63 "java/lang/StringUTF16" "LO_BYTE_SHIFT" "I", Cond.methodLink RJ2 232 yJ2_indexOfSupplementary_4cfef, Cond.static yJ2_indexOfSupplementary_4cfef, Cond.code yJ2_indexOfSupplementary_4cfef cJ2_indexOfSupplementary_4cfef 7 (some .int), Cond.methodLink RJ2 164 yJ11_isValidCodePoint_9a6ad, Cond.static yJ11_isValidCodePoint_9a6ad, Cond.initialized RJ11, Cond.code yJ11_isValidCodePoint_9a6ad cJ11_isValidCodePoint_9a6ad 2 (some .boolean), Cond.methodLink RJ2 157 yJ11_highSurrogate_5068e, Cond.static yJ11_highSurrogate_5068e, Cond.code yJ11_highSurrogate_5068e cJ11_highSurrogate_5068e 1 (some .char), Cond.constant RJ11 110 (55232), Cond.methodLink RJ2 161 yJ11_lowSurrogate_5068e, Cond.static yJ11_lowSurrogate_5068e, Cond.code yJ11_lowSurrogate_5068e cJ11_lowSurrogate_5068e 1 (some .char), Cond.constant RJ11 76 (56320), Cond.methodLink RX4 58 yX3_readFrom, Cond.instanceMethod yX3_readFrom, Cond.selects RX3 yX3_readFrom yX3_readFrom, Cond.initialized RX3, Cond.code yX3_readFrom cX3_readFrom 3 none, Cond.methodLink RX3 53 Lib.Math.min.name]
def wsX4_school_r6 : List Cond := [Cond.fieldLink RX3 34 "ThursdayRungs$School" "size" "I", Cond.fieldLink RX3 38 "ThursdayRungs$School" "heard" "I", Cond.fieldLink RX3 41 "ThursdayRungs$School" "thursdays" "I", Cond.fieldLink RX3 44 "ThursdayRungs$School" "timesTaught" "I", Cond.fieldLink RX3 11 "ThursdayRungs$School" "kinds" "[I", Cond.fieldLink RX3 15 "ThursdayRungs$School" "slips" "[I", Cond.fieldLink RX3 18 "ThursdayRungs$School" "known" "[I", Cond.fieldLink RX3 21 "ThursdayRungs$School" "ill" "[Z", Cond.methodLink RX3 47 yX2_children, Cond.methodLink RX3 59 yX2_kindOf, Cond.instanceMethod yX2_kindOf, Cond.selects RX2 yX2_kindOf yX2_kindOf, Cond.code yX2_kindOf cX2_kindOf 2 (some .int), Cond.methodLink RX3 63 yX2_slipOf, Cond.instanceMethod yX2_slipOf, Cond.selects RX2 yX2_slipOf yX2_slipOf, Cond.code yX2_slipOf cX2_slipOf 2 (some .int)]
def wsX4_school : List Cond := .code yX4_school cX4_school 1 (some .int) :: ((wsX4_school_r1 ++ (wsX4_school_r2 ++ (wsX4_school_r3 ++ (wsX4_school_r4 ++ (wsX4_school_r5 ++ wsX4_school_r6))))) ++ wsX40 ++ wsX20 ++ wsX30)
def wsX4_child_r1 : List Cond := [Cond.fieldLink RX4 19 "ThursdayRungs" "school" "LThursdayRungs$School;", Cond.fieldLink RX4 67 "ThursdayRungs$School" "kinds" "[I", Cond.fieldLink RX4 71 "ThursdayRungs$School" "slips" "[I", Cond.fieldLink RX4 74 "ThursdayRungs$School" "known" "[I", Cond.fieldLink RX4 77 "ThursdayRungs$School" "ill" "[Z", Cond.methodLink RX4 63 yX3_has, Cond.instanceMethod yX3_has, Cond.selects RX3 yX3_has yX3_has, Cond.initialized RX3, Cond.code yX3_has cX3_has 2 (some .boolean), Cond.fieldLink RX3 34 "ThursdayRungs$School" "size" "I", Cond.methodLink RX4 81 yX3_taughtNowBy, Cond.instanceMethod yX3_taughtNowBy, Cond.selects RX3 yX3_taughtNowBy yX3_taughtNowBy, Cond.code yX3_taughtNowBy cX3_taughtNowBy 2 (some .int), Cond.fieldLink RX3 18 "ThursdayRungs$School" "known" "[I", Cond.fieldLink RX3 21 "ThursdayRungs$School" "ill" "[Z", Cond.fieldLink RX3 11 "ThursdayRungs$School" "kinds" "[I", Cond.fieldLink RX3 15 "ThursdayRungs$School" "slips" "[I", Cond.methodLink RX3 72 yX1_passesOn, Cond.static yX1_passesOn, Cond.initialized RX1, Cond.code yX1_passesOn cX1_passesOn 3 (some .int), Cond.methodLink RX4 85 yX3_possibleSlips]
def wsX4_child_r2 : List Cond := [Cond.instanceMethod yX3_possibleSlips, Cond.selects RX3 yX3_possibleSlips yX3_possibleSlips, Cond.code yX3_possibleSlips cX3_possibleSlips 4 (some .int), Cond.methodLink RX3 106 yX3_explainsHeard, Cond.instanceMethod yX3_explainsHeard, Cond.selects RX3 yX3_explainsHeard yX3_explainsHeard, Cond.code yX3_explainsHeard cX3_explainsHeard 4 (some .boolean), Cond.fieldLink RX3 38 "ThursdayRungs$School" "heard" "I", Cond.fieldLink RX3 25 "ThursdayRungs$School" "heardChild" "[I", Cond.fieldLink RX3 28 "ThursdayRungs$School" "heardKnew" "[I", Cond.fieldLink RX3 31 "ThursdayRungs$School" "heardTaught" "[I", Cond.methodLink RX4 88 yX3_bestQuestion, Cond.instanceMethod yX3_bestQuestion, Cond.selects RX3 yX3_bestQuestion yX3_bestQuestion, Cond.code yX3_bestQuestion cX3_bestQuestion 7 (some .int), Cond.methodLink RX3 110 yX3_possibleSlips, Cond.methodLink RX3 113 yX3_worstLeft, Cond.static yX3_worstLeft, Cond.code yX3_worstLeft cX3_worstLeft 5 (some .int), Cond.methodLink RX3 120 Lib.Math.max.name, Cond.static Lib.Math.max.name, Cond.initialized "java/lang/Math", Cond.code Lib.Math.max.name Lib.Math.max.code 2 (some .int), Cond.methodLink RX3 116 yX3_leftBy]
def wsX4_child_r3 : List Cond := [Cond.static yX3_leftBy, Cond.code yX3_leftBy cX3_leftBy 6 (some .int)]
def wsX4_child : List Cond := .code yX4_child cX4_child 3 (some .int) :: ((wsX4_child_r1 ++ (wsX4_child_r2 ++ wsX4_child_r3)) ++ wsX40 ++ wsX30)
def wsX4_as : List Cond := .code yX4_as cX4_as 3 (some .int) :: ([.fieldLink RX4 19 "ThursdayRungs" "school" "LThursdayRungs$School;", .fieldLink RX4 67 "ThursdayRungs$School" "kinds" "[I", .methodLink RX4 63 yX3_has, .instanceMethod yX3_has, .selects RX3 yX3_has yX3_has, .initialized RX3, .code yX3_has cX3_has 2 (some .boolean), .fieldLink RX3 34 "ThursdayRungs$School" "size" "I", .methodLink RX4 91 yX1_isA, .static yX1_isA, .initialized RX1, .code yX1_isA cX1_isA 2 (some .boolean)] ++ wsX40 ++ wsX30)
def wsX4_isRule : List Cond := .code yX4_isRule cX4_isRule 1 (some .boolean) :: ([])
def wsX4_refusalOf : List Cond := .code yX4_refusalOf cX4_refusalOf 3 (some .int) :: ([.fieldLink RX4 19 "ThursdayRungs" "school" "LThursdayRungs$School;", .methodLink RX4 63 yX3_has, .instanceMethod yX3_has, .selects RX3 yX3_has yX3_has, .initialized RX3, .code yX3_has cX3_has 2 (some .boolean), .fieldLink RX3 34 "ThursdayRungs$School" "size" "I", .methodLink RX4 126 yX4_isRule, .static yX4_isRule, .initialized RX4, .code yX4_isRule cX4_isRule 1 (some .boolean)] ++ wsX40 ++ wsX30)
def wsX4_teaches : List Cond := .code yX4_teaches cX4_teaches 4 (some .int) :: ([.fieldLink RX4 19 "ThursdayRungs" "school" "LThursdayRungs$School;", .fieldLink RX4 67 "ThursdayRungs$School" "kinds" "[I", .fieldLink RX4 71 "ThursdayRungs$School" "slips" "[I", .methodLink RX4 97 yX4_refusalOf, .instanceMethod yX4_refusalOf, .selects RX4 yX4_refusalOf yX4_refusalOf, .initialized RX4, .code yX4_refusalOf cX4_refusalOf 3 (some .int), .methodLink RX4 63 yX3_has, .instanceMethod yX3_has, .selects RX3 yX3_has yX3_has, .initialized RX3, .code yX3_has cX3_has 2 (some .boolean), .fieldLink RX3 34 "ThursdayRungs$School" "size" "I", .methodLink RX4 126 yX4_isRule, .static yX4_isRule, .code yX4_isRule cX4_isRule 1 (some .boolean), .methodLink RX4 101 yX1_passesOn, .static yX1_passesOn, .initialized RX1, .code yX1_passesOn cX1_passesOn 3 (some .int)] ++ wsX40 ++ wsX30)
def wsX4_tell : List Cond := .code yX4_tell cX4_tell 5 (some .int) :: ([.fieldLink RX4 19 "ThursdayRungs" "school" "LThursdayRungs$School;", .fieldLink RX4 74 "ThursdayRungs$School" "known" "[I", .methodLink RX4 97 yX4_refusalOf, .instanceMethod yX4_refusalOf, .selects RX4 yX4_refusalOf yX4_refusalOf, .initialized RX4, .code yX4_refusalOf cX4_refusalOf 3 (some .int), .methodLink RX4 63 yX3_has, .instanceMethod yX3_has, .selects RX3 yX3_has yX3_has, .initialized RX3, .code yX3_has cX3_has 2 (some .boolean), .fieldLink RX3 34 "ThursdayRungs$School" "size" "I", .methodLink RX4 126 yX4_isRule, .static yX4_isRule, .code yX4_isRule cX4_isRule 1 (some .boolean)] ++ wsX40 ++ wsX30)
def wsX4_ill : List Cond := .code yX4_ill cX4_ill 4 (some .int) :: ([.fieldLink RX4 19 "ThursdayRungs" "school" "LThursdayRungs$School;", .fieldLink RX4 77 "ThursdayRungs$School" "ill" "[Z", .methodLink RX4 63 yX3_has, .instanceMethod yX3_has, .selects RX3 yX3_has yX3_has, .initialized RX3, .code yX3_has cX3_has 2 (some .boolean), .fieldLink RX3 34 "ThursdayRungs$School" "size" "I"] ++ wsX40 ++ wsX30)
def wsX4_slip : List Cond := .code yX4_slip cX4_slip 4 (some .int) :: ([.fieldLink RX4 19 "ThursdayRungs" "school" "LThursdayRungs$School;", .fieldLink RX4 71 "ThursdayRungs$School" "slips" "[I", .methodLink RX4 63 yX3_has, .instanceMethod yX3_has, .selects RX3 yX3_has yX3_has, .initialized RX3, .code yX3_has cX3_has 2 (some .boolean), .fieldLink RX3 34 "ThursdayRungs$School" "size" "I"] ++ wsX40 ++ wsX30)
def wsX4_thursday_r1 : List Cond := [Cond.fieldLink RX4 19 "ThursdayRungs" "school" "LThursdayRungs$School;", Cond.methodLink RX4 105 yX3_isNone, Cond.instanceMethod yX3_isNone, Cond.selects RX3 yX3_isNone yX3_isNone, Cond.initialized RX3, Cond.code yX3_isNone cX3_isNone 1 (some .boolean), Cond.fieldLink RX3 34 "ThursdayRungs$School" "size" "I", Cond.methodLink RX4 108 yX3_holdThursday, Cond.instanceMethod yX3_holdThursday, Cond.selects RX3 yX3_holdThursday yX3_holdThursday, Cond.code yX3_holdThursday cX3_holdThursday 3 (some .int), Cond.fieldLink RX3 18 "ThursdayRungs$School" "known" "[I", Cond.fieldLink RX3 41 "ThursdayRungs$School" "thursdays" "I", Cond.fieldLink RX3 44 "ThursdayRungs$School" "timesTaught" "I", Cond.methodLink RX3 81 yX3_top, Cond.instanceMethod yX3_top, Cond.selects RX3 yX3_top yX3_top, Cond.code yX3_top cX3_top 1 (some .int), Cond.methodLink RX3 84 yX3_isTaughtNext, Cond.instanceMethod yX3_isTaughtNext, Cond.selects RX3 yX3_isTaughtNext yX3_isTaughtNext, Cond.code yX3_isTaughtNext cX3_isTaughtNext 2 (some .boolean), Cond.fieldLink RX3 21 "ThursdayRungs$School" "ill" "[Z", Cond.methodLink RX3 78 yX3_taughtNowBy]
def wsX4_thursday_r2 : List Cond := [Cond.instanceMethod yX3_taughtNowBy, Cond.selects RX3 yX3_taughtNowBy yX3_taughtNowBy, Cond.code yX3_taughtNowBy cX3_taughtNowBy 2 (some .int), Cond.fieldLink RX3 11 "ThursdayRungs$School" "kinds" "[I", Cond.fieldLink RX3 15 "ThursdayRungs$School" "slips" "[I", Cond.methodLink RX3 72 yX1_passesOn, Cond.static yX1_passesOn, Cond.initialized RX1, Cond.code yX1_passesOn cX1_passesOn 3 (some .int)]
def wsX4_thursday : List Cond := .code yX4_thursday cX4_thursday 1 (some .int) :: ((wsX4_thursday_r1 ++ wsX4_thursday_r2) ++ wsX40 ++ wsX30)
def wsX4_arrives_r1 : List Cond := [Cond.fieldLink RX4 19 "ThursdayRungs" "school" "LThursdayRungs$School;", Cond.methodLink RX4 97 yX4_refusalOf, Cond.instanceMethod yX4_refusalOf, Cond.selects RX4 yX4_refusalOf yX4_refusalOf, Cond.initialized RX4, Cond.code yX4_refusalOf cX4_refusalOf 3 (some .int), Cond.methodLink RX4 63 yX3_has, Cond.instanceMethod yX3_has, Cond.selects RX3 yX3_has yX3_has, Cond.initialized RX3, Cond.code yX3_has cX3_has 2 (some .boolean), Cond.fieldLink RX3 34 "ThursdayRungs$School" "size" "I", Cond.methodLink RX4 126 yX4_isRule, Cond.static yX4_isRule, Cond.code yX4_isRule cX4_isRule 1 (some .boolean), Cond.methodLink RX4 111 yX3_atTop, Cond.instanceMethod yX3_atTop, Cond.selects RX3 yX3_atTop yX3_atTop, Cond.code yX3_atTop cX3_atTop 6 (some .int), Cond.fieldLink RX3 11 "ThursdayRungs$School" "kinds" "[I", Cond.fieldLink RX3 15 "ThursdayRungs$School" "slips" "[I", Cond.methodLink RX3 81 yX3_top, Cond.instanceMethod yX3_top, Cond.selects RX3 yX3_top yX3_top]
def wsX4_arrives_r2 : List Cond := [Cond.code yX3_top cX3_top 1 (some .int), Cond.methodLink RX3 72 yX1_passesOn, Cond.static yX1_passesOn, Cond.initialized RX1, Cond.code yX1_passesOn cX1_passesOn 3 (some .int)]
def wsX4_arrives : List Cond := .code yX4_arrives cX4_arrives 4 (some .int) :: ((wsX4_arrives_r1 ++ wsX4_arrives_r2) ++ wsX40 ++ wsX30)
def wsX4_from_r1 : List Cond := [Cond.fieldLink RX4 19 "ThursdayRungs" "school" "LThursdayRungs$School;", Cond.methodLink RX4 97 yX4_refusalOf, Cond.instanceMethod yX4_refusalOf, Cond.selects RX4 yX4_refusalOf yX4_refusalOf, Cond.initialized RX4, Cond.code yX4_refusalOf cX4_refusalOf 3 (some .int), Cond.methodLink RX4 63 yX3_has, Cond.instanceMethod yX3_has, Cond.selects RX3 yX3_has yX3_has, Cond.initialized RX3, Cond.code yX3_has cX3_has 2 (some .boolean), Cond.fieldLink RX3 34 "ThursdayRungs$School" "size" "I", Cond.methodLink RX4 126 yX4_isRule, Cond.static yX4_isRule, Cond.code yX4_isRule cX4_isRule 1 (some .boolean), Cond.methodLink RX4 114 yX3_sourcesOf, Cond.instanceMethod yX3_sourcesOf, Cond.selects RX3 yX3_sourcesOf yX3_sourcesOf, Cond.code yX3_sourcesOf cX3_sourcesOf 5 (some .int), Cond.methodLink RX3 93 yX3_atTop, Cond.instanceMethod yX3_atTop, Cond.selects RX3 yX3_atTop yX3_atTop, Cond.code yX3_atTop cX3_atTop 6 (some .int), Cond.fieldLink RX3 11 "ThursdayRungs$School" "kinds" "[I"]
def wsX4_from_r2 : List Cond := [Cond.fieldLink RX3 15 "ThursdayRungs$School" "slips" "[I", Cond.methodLink RX3 81 yX3_top, Cond.instanceMethod yX3_top, Cond.selects RX3 yX3_top yX3_top, Cond.code yX3_top cX3_top 1 (some .int), Cond.methodLink RX3 72 yX1_passesOn, Cond.static yX1_passesOn, Cond.initialized RX1, Cond.code yX1_passesOn cX1_passesOn 3 (some .int)]
def wsX4_from : List Cond := .code yX4_from cX4_from 4 (some .int) :: ((wsX4_from_r1 ++ wsX4_from_r2) ++ wsX40 ++ wsX30)
def wsX4_soon : List Cond := .code yX4_soon cX4_soon 1 (some .int) :: ([.fieldLink RX4 19 "ThursdayRungs" "school" "LThursdayRungs$School;", .methodLink RX4 105 yX3_isNone, .instanceMethod yX3_isNone, .selects RX3 yX3_isNone yX3_isNone, .initialized RX3, .code yX3_isNone cX3_isNone 1 (some .boolean), .fieldLink RX3 34 "ThursdayRungs$School" "size" "I", .methodLink RX4 117 yX3_thursdaysToTop, .instanceMethod yX3_thursdaysToTop, .selects RX3 yX3_thursdaysToTop yX3_thursdaysToTop, .code yX3_thursdaysToTop cX3_thursdaysToTop 2 (some .int), .fieldLink RX3 18 "ThursdayRungs$School" "known" "[I", .fieldLink RX3 21 "ThursdayRungs$School" "ill" "[Z", .methodLink RX3 99 yX3_isNone, .methodLink RX3 81 yX3_top, .instanceMethod yX3_top, .selects RX3 yX3_top yX3_top, .code yX3_top cX3_top 1 (some .int)] ++ wsX40 ++ wsX30)
def wsX4_cure_r1 : List Cond := [Cond.fieldLink RX4 19 "ThursdayRungs" "school" "LThursdayRungs$School;", Cond.methodLink RX4 105 yX3_isNone, Cond.instanceMethod yX3_isNone, Cond.selects RX3 yX3_isNone yX3_isNone, Cond.initialized RX3, Cond.code yX3_isNone cX3_isNone 1 (some .boolean), Cond.fieldLink RX3 34 "ThursdayRungs$School" "size" "I", Cond.methodLink RX4 120 yX3_bestToCure, Cond.instanceMethod yX3_bestToCure, Cond.selects RX3 yX3_bestToCure yX3_bestToCure, Cond.code yX3_bestToCure cX3_bestToCure 5 (some .int), Cond.methodLink RX3 96 yX3_unchangedAtTop, Cond.instanceMethod yX3_unchangedAtTop, Cond.selects RX3 yX3_unchangedAtTop yX3_unchangedAtTop, Cond.code yX3_unchangedAtTop cX3_unchangedAtTop 4 (some .int), Cond.methodLink RX3 93 yX3_atTop, Cond.instanceMethod yX3_atTop, Cond.selects RX3 yX3_atTop yX3_atTop, Cond.code yX3_atTop cX3_atTop 6 (some .int), Cond.fieldLink RX3 11 "ThursdayRungs$School" "kinds" "[I", Cond.fieldLink RX3 15 "ThursdayRungs$School" "slips" "[I", Cond.methodLink RX3 81 yX3_top, Cond.instanceMethod yX3_top, Cond.selects RX3 yX3_top yX3_top]
def wsX4_cure_r2 : List Cond := [Cond.code yX3_top cX3_top 1 (some .int), Cond.methodLink RX3 72 yX1_passesOn, Cond.static yX1_passesOn, Cond.initialized RX1, Cond.code yX1_passesOn cX1_passesOn 3 (some .int), Cond.methodLink RX4 123 yX3_unchangedAtTop]
def wsX4_cure : List Cond := .code yX4_cure cX4_cure 3 (some .int) :: ((wsX4_cure_r1 ++ wsX4_cure_r2) ++ wsX40 ++ wsX30)
def wsX4_hear_r1 : List Cond := [Cond.fieldLink RX4 19 "ThursdayRungs" "school" "LThursdayRungs$School;", Cond.fieldLink RX4 136 "ThursdayRungs$School" "heard" "I", Cond.methodLink RX4 97 yX4_refusalOf, Cond.instanceMethod yX4_refusalOf, Cond.selects RX4 yX4_refusalOf yX4_refusalOf, Cond.initialized RX4, Cond.code yX4_refusalOf cX4_refusalOf 3 (some .int), Cond.methodLink RX4 63 yX3_has, Cond.instanceMethod yX3_has, Cond.selects RX3 yX3_has yX3_has, Cond.initialized RX3, Cond.code yX3_has cX3_has 2 (some .boolean), Cond.fieldLink RX3 34 "ThursdayRungs$School" "size" "I", Cond.methodLink RX4 126 yX4_isRule, Cond.static yX4_isRule, Cond.code yX4_isRule cX4_isRule 1 (some .boolean), Cond.methodLink RX4 129 yX3_isHeardFull, Cond.instanceMethod yX3_isHeardFull, Cond.selects RX3 yX3_isHeardFull yX3_isHeardFull, Cond.code yX3_isHeardFull cX3_isHeardFull 1 (some .boolean), Cond.fieldLink RX3 38 "ThursdayRungs$School" "heard" "I", Cond.methodLink RX4 132 yX3_addHeard, Cond.instanceMethod yX3_addHeard, Cond.selects RX3 yX3_addHeard yX3_addHeard]
def wsX4_hear_r2 : List Cond := [Cond.code yX3_addHeard cX3_addHeard 4 none, Cond.fieldLink RX3 25 "ThursdayRungs$School" "heardChild" "[I", Cond.fieldLink RX3 28 "ThursdayRungs$School" "heardKnew" "[I", Cond.fieldLink RX3 31 "ThursdayRungs$School" "heardTaught" "[I", Cond.methodLink RX3 103 yX3_isHeardFull]
def wsX4_hear : List Cond := .code yX4_hear cX4_hear 5 (some .int) :: ((wsX4_hear_r1 ++ wsX4_hear_r2) ++ wsX40 ++ wsX30)
def wsX4_forget : List Cond := .code yX4_forget cX4_forget 2 (some .int) :: ([.fieldLink RX4 19 "ThursdayRungs" "school" "LThursdayRungs$School;", .fieldLink RX4 136 "ThursdayRungs$School" "heard" "I"] ++ wsX40 ++ wsX30)
def wsX4_terms_r1 : List Cond := [Cond.fieldLink RX4 19 "ThursdayRungs" "school" "LThursdayRungs$School;", Cond.fieldLink RX4 26 "ThursdayRungs" "trial" "LThursdayRungs$School;", Cond.fieldLink RX4 32 "ThursdayRungs" "draws" "LThursdayRungs$Draws;", Cond.fieldLink RX4 143 "ThursdayRungs$Draws" "seed" "J", Cond.fieldLink RX4 74 "ThursdayRungs$School" "known" "[I", Cond.methodLink RX4 105 yX3_isNone, Cond.instanceMethod yX3_isNone, Cond.selects RX3 yX3_isNone yX3_isNone, Cond.initialized RX3, Cond.code yX3_isNone cX3_isNone 1 (some .boolean), Cond.fieldLink RX3 34 "ThursdayRungs$School" "size" "I", Cond.methodLink RX4 139 yX3_copyFrom, Cond.instanceMethod yX3_copyFrom, Cond.selects RX3 yX3_copyFrom yX3_copyFrom, Cond.code yX3_copyFrom cX3_copyFrom 2 none, Cond.fieldLink RX3 38 "ThursdayRungs$School" "heard" "I", Cond.fieldLink RX3 41 "ThursdayRungs$School" "thursdays" "I", Cond.fieldLink RX3 44 "ThursdayRungs$School" "timesTaught" "I", Cond.fieldLink RX3 11 "ThursdayRungs$School" "kinds" "[I", Cond.methodLink RX3 66 arraycopyName, Cond.native arraycopyName, Cond.static arraycopyName, Cond.initialized "java/lang/System", Cond.fieldLink RX3 15 "ThursdayRungs$School" "slips" "[I"]
def wsX4_terms_r2 : List Cond := [Cond.fieldLink RX3 18 "ThursdayRungs$School" "known" "[I", Cond.fieldLink RX3 21 "ThursdayRungs$School" "ill" "[Z", Cond.fieldLink RX3 25 "ThursdayRungs$School" "heardChild" "[I", Cond.fieldLink RX3 28 "ThursdayRungs$School" "heardKnew" "[I", Cond.fieldLink RX3 31 "ThursdayRungs$School" "heardTaught" "[I", Cond.methodLink RX4 147 yX3_beginAnew, Cond.instanceMethod yX3_beginAnew, Cond.selects RX3 yX3_beginAnew yX3_beginAnew, Cond.code yX3_beginAnew cX3_beginAnew 4 none, Cond.methodLink RX3 88 yX0_next, Cond.instanceMethod yX0_next, Cond.selects RX0 yX0_next yX0_next, Cond.initialized RX0, Cond.code yX0_next cX0_next 2 (some .int), Cond.constantLong RX0 13 (1103515245), Cond.fieldLink RX0 7 "ThursdayRungs$Draws" "seed" "J", Cond.constantLong RX0 15 (12345), Cond.constantLong RX0 17 (2147483648), Cond.constantLong RX0 19 (65536), Cond.methodLink RX4 151 yX3_top, Cond.instanceMethod yX3_top, Cond.selects RX3 yX3_top yX3_top, Cond.code yX3_top cX3_top 1 (some .int), Cond.methodLink RX4 154 yX3_isTaughtNext]
def wsX4_terms_r3 : List Cond := [Cond.instanceMethod yX3_isTaughtNext, Cond.selects RX3 yX3_isTaughtNext yX3_isTaughtNext, Cond.code yX3_isTaughtNext cX3_isTaughtNext 2 (some .boolean), Cond.methodLink RX3 78 yX3_taughtNowBy, Cond.instanceMethod yX3_taughtNowBy, Cond.selects RX3 yX3_taughtNowBy yX3_taughtNowBy, Cond.code yX3_taughtNowBy cX3_taughtNowBy 2 (some .int), Cond.methodLink RX3 72 yX1_passesOn, Cond.static yX1_passesOn, Cond.initialized RX1, Cond.code yX1_passesOn cX1_passesOn 3 (some .int), Cond.methodLink RX4 108 yX3_holdThursday, Cond.instanceMethod yX3_holdThursday, Cond.selects RX3 yX3_holdThursday yX3_holdThursday, Cond.code yX3_holdThursday cX3_holdThursday 3 (some .int), Cond.methodLink RX3 81 yX3_top, Cond.methodLink RX3 84 yX3_isTaughtNext]
def wsX4_terms : List Cond := .code yX4_terms cX4_terms 6 (some .int) :: ((wsX4_terms_r1 ++ (wsX4_terms_r2 ++ wsX4_terms_r3)) ++ wsX40 ++ wsX00 ++ wsX30)
def wsX4_image_r1 : List Cond := [Cond.fieldLink RX4 19 "ThursdayRungs" "school" "LThursdayRungs$School;", Cond.fieldLink RX4 23 "ThursdayRungs" "kept" "LThursdayRungs$School;", Cond.fieldLink RX4 157 "ThursdayRungs$School" "thursdays" "I", Cond.methodLink RX4 105 yX3_isNone, Cond.instanceMethod yX3_isNone, Cond.selects RX3 yX3_isNone yX3_isNone, Cond.initialized RX3, Cond.code yX3_isNone cX3_isNone 1 (some .boolean), Cond.fieldLink RX3 34 "ThursdayRungs$School" "size" "I", Cond.methodLink RX4 139 yX3_copyFrom, Cond.instanceMethod yX3_copyFrom, Cond.selects RX3 yX3_copyFrom yX3_copyFrom, Cond.code yX3_copyFrom cX3_copyFrom 2 none, Cond.fieldLink RX3 38 "ThursdayRungs$School" "heard" "I", Cond.fieldLink RX3 41 "ThursdayRungs$School" "thursdays" "I", Cond.fieldLink RX3 44 "ThursdayRungs$School" "timesTaught" "I", Cond.fieldLink RX3 11 "ThursdayRungs$School" "kinds" "[I", Cond.methodLink RX3 66 arraycopyName, Cond.native arraycopyName, Cond.static arraycopyName, Cond.initialized "java/lang/System", Cond.fieldLink RX3 15 "ThursdayRungs$School" "slips" "[I", Cond.fieldLink RX3 18 "ThursdayRungs$School" "known" "[I", Cond.fieldLink RX3 21 "ThursdayRungs$School" "ill" "[Z"]
def wsX4_image_r2 : List Cond := [Cond.fieldLink RX3 25 "ThursdayRungs$School" "heardChild" "[I", Cond.fieldLink RX3 28 "ThursdayRungs$School" "heardKnew" "[I", Cond.fieldLink RX3 31 "ThursdayRungs$School" "heardTaught" "[I"]
def wsX4_image : List Cond := .code yX4_image cX4_image 1 (some .int) :: ((wsX4_image_r1 ++ wsX4_image_r2) ++ wsX40 ++ wsX30)
def wsX4_restore_r1 : List Cond := [Cond.fieldLink RX4 23 "ThursdayRungs" "kept" "LThursdayRungs$School;", Cond.fieldLink RX4 19 "ThursdayRungs" "school" "LThursdayRungs$School;", Cond.fieldLink RX4 157 "ThursdayRungs$School" "thursdays" "I", Cond.methodLink RX4 105 yX3_isNone, Cond.instanceMethod yX3_isNone, Cond.selects RX3 yX3_isNone yX3_isNone, Cond.initialized RX3, Cond.code yX3_isNone cX3_isNone 1 (some .boolean), Cond.fieldLink RX3 34 "ThursdayRungs$School" "size" "I", Cond.methodLink RX4 139 yX3_copyFrom, Cond.instanceMethod yX3_copyFrom, Cond.selects RX3 yX3_copyFrom yX3_copyFrom, Cond.code yX3_copyFrom cX3_copyFrom 2 none, Cond.fieldLink RX3 38 "ThursdayRungs$School" "heard" "I", Cond.fieldLink RX3 41 "ThursdayRungs$School" "thursdays" "I", Cond.fieldLink RX3 44 "ThursdayRungs$School" "timesTaught" "I", Cond.fieldLink RX3 11 "ThursdayRungs$School" "kinds" "[I", Cond.methodLink RX3 66 arraycopyName, Cond.native arraycopyName, Cond.static arraycopyName, Cond.initialized "java/lang/System", Cond.fieldLink RX3 15 "ThursdayRungs$School" "slips" "[I", Cond.fieldLink RX3 18 "ThursdayRungs$School" "known" "[I", Cond.fieldLink RX3 21 "ThursdayRungs$School" "ill" "[Z"]
def wsX4_restore_r2 : List Cond := [Cond.fieldLink RX3 25 "ThursdayRungs$School" "heardChild" "[I", Cond.fieldLink RX3 28 "ThursdayRungs$School" "heardKnew" "[I", Cond.fieldLink RX3 31 "ThursdayRungs$School" "heardTaught" "[I"]
def wsX4_restore : List Cond := .code yX4_restore cX4_restore 1 (some .int) :: ((wsX4_restore_r1 ++ wsX4_restore_r2) ++ wsX40 ++ wsX30)
def wsX4_count_r1 : List Cond := [Cond.fieldLink RX4 19 "ThursdayRungs" "school" "LThursdayRungs$School;", Cond.fieldLink RX4 62 "ThursdayRungs$School" "size" "I", Cond.fieldLink RX4 157 "ThursdayRungs$School" "thursdays" "I", Cond.fieldLink RX4 169 "ThursdayRungs$School" "timesTaught" "I", Cond.fieldLink RX4 136 "ThursdayRungs$School" "heard" "I", Cond.fieldLink RX4 10 "ThursdayRungs" "page" "LThursdayRungs$Page;", Cond.fieldLink RX4 48 "ThursdayRungs$Page" "size" "I", Cond.fieldLink RX4 36 "ThursdayRungs" "schoolsRead" "I", Cond.methodLink RX4 160 yX3_knowing, Cond.instanceMethod yX3_knowing, Cond.selects RX3 yX3_knowing yX3_knowing, Cond.initialized RX3, Cond.code yX3_knowing cX3_knowing 3 (some .int), Cond.fieldLink RX3 34 "ThursdayRungs$School" "size" "I", Cond.fieldLink RX3 18 "ThursdayRungs$School" "known" "[I", Cond.methodLink RX4 163 yX3_unlikeRules, Cond.instanceMethod yX3_unlikeRules, Cond.selects RX3 yX3_unlikeRules yX3_unlikeRules, Cond.code yX3_unlikeRules cX3_unlikeRules 3 (some .int), Cond.methodLink RX3 123 yJ6_bitCount_0f7a4, Cond.static yJ6_bitCount_0f7a4, Cond.initialized RJ6, Cond.code yJ6_bitCount_0f7a4 cJ6_bitCount_0f7a4 1 (some .int), Cond.constant RJ6 265 (1431655765)]
def wsX4_count_r2 : List Cond := [Cond.constant RJ6 266 (858993459), Cond.constant RJ6 267 (252645135), Cond.methodLink RX4 166 yX3_illOnes, Cond.instanceMethod yX3_illOnes, Cond.selects RX3 yX3_illOnes yX3_illOnes, Cond.code yX3_illOnes cX3_illOnes 3 (some .int), Cond.fieldLink RX3 21 "ThursdayRungs$School" "ill" "[Z", Cond.methodLink RX4 105 yX3_isNone, Cond.instanceMethod yX3_isNone, Cond.selects RX3 yX3_isNone yX3_isNone, Cond.code yX3_isNone cX3_isNone 1 (some .boolean), Cond.methodLink RX4 123 yX3_unchangedAtTop, Cond.instanceMethod yX3_unchangedAtTop, Cond.selects RX3 yX3_unchangedAtTop yX3_unchangedAtTop, Cond.code yX3_unchangedAtTop cX3_unchangedAtTop 4 (some .int), Cond.methodLink RX3 93 yX3_atTop, Cond.instanceMethod yX3_atTop, Cond.selects RX3 yX3_atTop yX3_atTop, Cond.code yX3_atTop cX3_atTop 6 (some .int), Cond.fieldLink RX3 11 "ThursdayRungs$School" "kinds" "[I", Cond.fieldLink RX3 15 "ThursdayRungs$School" "slips" "[I", Cond.methodLink RX3 81 yX3_top, Cond.instanceMethod yX3_top, Cond.selects RX3 yX3_top yX3_top]
def wsX4_count_r3 : List Cond := [Cond.code yX3_top cX3_top 1 (some .int), Cond.methodLink RX3 72 yX1_passesOn, Cond.static yX1_passesOn, Cond.initialized RX1, Cond.code yX1_passesOn cX1_passesOn 3 (some .int)]
def wsX4_count : List Cond := .code yX4_count cX4_count 2 (some .int) :: ((wsX4_count_r1 ++ (wsX4_count_r2 ++ wsX4_count_r3)) ++ wsX40 ++ wsX30 ++ wsX20)
def wsX4_with : List Cond := .code yX4_with cX4_with 4 (some .long) :: ([.constantLong RX4 203 (31)])
def wsX4_withChild_r1 : List Cond := [Cond.methodLink RX4 194 yX4_child, Cond.instanceMethod yX4_child, Cond.selects RX4 yX4_child yX4_child, Cond.initialized RX4, Cond.code yX4_child cX4_child 3 (some .int), Cond.fieldLink RX4 19 "ThursdayRungs" "school" "LThursdayRungs$School;", Cond.fieldLink RX4 67 "ThursdayRungs$School" "kinds" "[I", Cond.fieldLink RX4 71 "ThursdayRungs$School" "slips" "[I", Cond.fieldLink RX4 74 "ThursdayRungs$School" "known" "[I", Cond.fieldLink RX4 77 "ThursdayRungs$School" "ill" "[Z", Cond.methodLink RX4 63 yX3_has, Cond.instanceMethod yX3_has, Cond.selects RX3 yX3_has yX3_has, Cond.initialized RX3, Cond.code yX3_has cX3_has 2 (some .boolean), Cond.fieldLink RX3 34 "ThursdayRungs$School" "size" "I", Cond.methodLink RX4 81 yX3_taughtNowBy, Cond.instanceMethod yX3_taughtNowBy, Cond.selects RX3 yX3_taughtNowBy yX3_taughtNowBy, Cond.code yX3_taughtNowBy cX3_taughtNowBy 2 (some .int), Cond.fieldLink RX3 18 "ThursdayRungs$School" "known" "[I", Cond.fieldLink RX3 21 "ThursdayRungs$School" "ill" "[Z", Cond.fieldLink RX3 11 "ThursdayRungs$School" "kinds" "[I", Cond.fieldLink RX3 15 "ThursdayRungs$School" "slips" "[I"]
def wsX4_withChild_r2 : List Cond := [Cond.methodLink RX3 72 yX1_passesOn, Cond.static yX1_passesOn, Cond.initialized RX1, Cond.code yX1_passesOn cX1_passesOn 3 (some .int), Cond.methodLink RX4 85 yX3_possibleSlips, Cond.instanceMethod yX3_possibleSlips, Cond.selects RX3 yX3_possibleSlips yX3_possibleSlips, Cond.code yX3_possibleSlips cX3_possibleSlips 4 (some .int), Cond.methodLink RX3 106 yX3_explainsHeard, Cond.instanceMethod yX3_explainsHeard, Cond.selects RX3 yX3_explainsHeard yX3_explainsHeard, Cond.code yX3_explainsHeard cX3_explainsHeard 4 (some .boolean), Cond.fieldLink RX3 38 "ThursdayRungs$School" "heard" "I", Cond.fieldLink RX3 25 "ThursdayRungs$School" "heardChild" "[I", Cond.fieldLink RX3 28 "ThursdayRungs$School" "heardKnew" "[I", Cond.fieldLink RX3 31 "ThursdayRungs$School" "heardTaught" "[I", Cond.methodLink RX4 88 yX3_bestQuestion, Cond.instanceMethod yX3_bestQuestion, Cond.selects RX3 yX3_bestQuestion yX3_bestQuestion, Cond.code yX3_bestQuestion cX3_bestQuestion 7 (some .int), Cond.methodLink RX3 110 yX3_possibleSlips, Cond.methodLink RX3 113 yX3_worstLeft, Cond.static yX3_worstLeft, Cond.code yX3_worstLeft cX3_worstLeft 5 (some .int)]
def wsX4_withChild_r3 : List Cond := [Cond.methodLink RX3 120 Lib.Math.max.name, Cond.static Lib.Math.max.name, Cond.initialized "java/lang/Math", Cond.code Lib.Math.max.name Lib.Math.max.code 2 (some .int), Cond.methodLink RX3 116 yX3_leftBy, Cond.static yX3_leftBy, Cond.code yX3_leftBy cX3_leftBy 6 (some .int), Cond.methodLink RX4 181 yX4_with, Cond.static yX4_with, Cond.code yX4_with cX4_with 4 (some .long), Cond.constantLong RX4 203 (31), Cond.methodLink RX4 197 yX4_arrives, Cond.instanceMethod yX4_arrives, Cond.selects RX4 yX4_arrives yX4_arrives, Cond.code yX4_arrives cX4_arrives 4 (some .int), Cond.methodLink RX4 97 yX4_refusalOf, Cond.instanceMethod yX4_refusalOf, Cond.selects RX4 yX4_refusalOf yX4_refusalOf, Cond.code yX4_refusalOf cX4_refusalOf 3 (some .int), Cond.methodLink RX4 126 yX4_isRule, Cond.static yX4_isRule, Cond.code yX4_isRule cX4_isRule 1 (some .boolean), Cond.methodLink RX4 111 yX3_atTop, Cond.instanceMethod yX3_atTop]
def wsX4_withChild_r4 : List Cond := [Cond.selects RX3 yX3_atTop yX3_atTop, Cond.code yX3_atTop cX3_atTop 6 (some .int), Cond.methodLink RX3 81 yX3_top, Cond.instanceMethod yX3_top, Cond.selects RX3 yX3_top yX3_top, Cond.code yX3_top cX3_top 1 (some .int), Cond.methodLink RX4 200 yX4_from, Cond.instanceMethod yX4_from, Cond.selects RX4 yX4_from yX4_from, Cond.code yX4_from cX4_from 4 (some .int), Cond.methodLink RX4 114 yX3_sourcesOf, Cond.instanceMethod yX3_sourcesOf, Cond.selects RX3 yX3_sourcesOf yX3_sourcesOf, Cond.code yX3_sourcesOf cX3_sourcesOf 5 (some .int), Cond.methodLink RX3 93 yX3_atTop]
def wsX4_withChild : List Cond := .code yX4_withChild cX4_withChild 7 (some .long) :: ((wsX4_withChild_r1 ++ (wsX4_withChild_r2 ++ (wsX4_withChild_r3 ++ wsX4_withChild_r4))) ++ wsX40 ++ wsX30)
def wsX4_digest_r1 : List Cond := [Cond.constantLong RX4 172 (1039), Cond.fieldLink RX4 19 "ThursdayRungs" "school" "LThursdayRungs$School;", Cond.fieldLink RX4 62 "ThursdayRungs$School" "size" "I", Cond.fieldLink RX4 10 "ThursdayRungs" "page" "LThursdayRungs$Page;", Cond.fieldLink RX4 48 "ThursdayRungs$Page" "size" "I", Cond.fieldLink RX4 188 "ThursdayRungs$Page" "codes" "[I", Cond.methodLink RX4 174 yX4_withChild, Cond.instanceMethod yX4_withChild, Cond.selects RX4 yX4_withChild yX4_withChild, Cond.initialized RX4, Cond.code yX4_withChild cX4_withChild 7 (some .long), Cond.methodLink RX4 194 yX4_child, Cond.instanceMethod yX4_child, Cond.selects RX4 yX4_child yX4_child, Cond.code yX4_child cX4_child 3 (some .int), Cond.fieldLink RX4 67 "ThursdayRungs$School" "kinds" "[I", Cond.fieldLink RX4 71 "ThursdayRungs$School" "slips" "[I", Cond.fieldLink RX4 74 "ThursdayRungs$School" "known" "[I", Cond.fieldLink RX4 77 "ThursdayRungs$School" "ill" "[Z", Cond.methodLink RX4 63 yX3_has, Cond.instanceMethod yX3_has, Cond.selects RX3 yX3_has yX3_has, Cond.initialized RX3, Cond.code yX3_has cX3_has 2 (some .boolean)]
def wsX4_digest_r2 : List Cond := [Cond.fieldLink RX3 34 "ThursdayRungs$School" "size" "I", Cond.methodLink RX4 81 yX3_taughtNowBy, Cond.instanceMethod yX3_taughtNowBy, Cond.selects RX3 yX3_taughtNowBy yX3_taughtNowBy, Cond.code yX3_taughtNowBy cX3_taughtNowBy 2 (some .int), Cond.fieldLink RX3 18 "ThursdayRungs$School" "known" "[I", Cond.fieldLink RX3 21 "ThursdayRungs$School" "ill" "[Z", Cond.fieldLink RX3 11 "ThursdayRungs$School" "kinds" "[I", Cond.fieldLink RX3 15 "ThursdayRungs$School" "slips" "[I", Cond.methodLink RX3 72 yX1_passesOn, Cond.static yX1_passesOn, Cond.initialized RX1, Cond.code yX1_passesOn cX1_passesOn 3 (some .int), Cond.methodLink RX4 85 yX3_possibleSlips, Cond.instanceMethod yX3_possibleSlips, Cond.selects RX3 yX3_possibleSlips yX3_possibleSlips, Cond.code yX3_possibleSlips cX3_possibleSlips 4 (some .int), Cond.methodLink RX3 106 yX3_explainsHeard, Cond.instanceMethod yX3_explainsHeard, Cond.selects RX3 yX3_explainsHeard yX3_explainsHeard, Cond.code yX3_explainsHeard cX3_explainsHeard 4 (some .boolean), Cond.fieldLink RX3 38 "ThursdayRungs$School" "heard" "I", Cond.fieldLink RX3 25 "ThursdayRungs$School" "heardChild" "[I", Cond.fieldLink RX3 28 "ThursdayRungs$School" "heardKnew" "[I"]
def wsX4_digest_r3 : List Cond := [Cond.fieldLink RX3 31 "ThursdayRungs$School" "heardTaught" "[I", Cond.methodLink RX4 88 yX3_bestQuestion, Cond.instanceMethod yX3_bestQuestion, Cond.selects RX3 yX3_bestQuestion yX3_bestQuestion, Cond.code yX3_bestQuestion cX3_bestQuestion 7 (some .int), Cond.methodLink RX3 110 yX3_possibleSlips, Cond.methodLink RX3 113 yX3_worstLeft, Cond.static yX3_worstLeft, Cond.code yX3_worstLeft cX3_worstLeft 5 (some .int), Cond.methodLink RX3 120 Lib.Math.max.name, Cond.static Lib.Math.max.name, Cond.initialized "java/lang/Math", Cond.code Lib.Math.max.name Lib.Math.max.code 2 (some .int), Cond.methodLink RX3 116 yX3_leftBy, Cond.static yX3_leftBy, Cond.code yX3_leftBy cX3_leftBy 6 (some .int), Cond.methodLink RX4 181 yX4_with, Cond.static yX4_with, Cond.code yX4_with cX4_with 4 (some .long), Cond.constantLong RX4 203 (31), Cond.methodLink RX4 197 yX4_arrives, Cond.instanceMethod yX4_arrives, Cond.selects RX4 yX4_arrives yX4_arrives, Cond.code yX4_arrives cX4_arrives 4 (some .int)]
def wsX4_digest_r4 : List Cond := [Cond.methodLink RX4 97 yX4_refusalOf, Cond.instanceMethod yX4_refusalOf, Cond.selects RX4 yX4_refusalOf yX4_refusalOf, Cond.code yX4_refusalOf cX4_refusalOf 3 (some .int), Cond.methodLink RX4 126 yX4_isRule, Cond.static yX4_isRule, Cond.code yX4_isRule cX4_isRule 1 (some .boolean), Cond.methodLink RX4 111 yX3_atTop, Cond.instanceMethod yX3_atTop, Cond.selects RX3 yX3_atTop yX3_atTop, Cond.code yX3_atTop cX3_atTop 6 (some .int), Cond.methodLink RX3 81 yX3_top, Cond.instanceMethod yX3_top, Cond.selects RX3 yX3_top yX3_top, Cond.code yX3_top cX3_top 1 (some .int), Cond.methodLink RX4 200 yX4_from, Cond.instanceMethod yX4_from, Cond.selects RX4 yX4_from yX4_from, Cond.code yX4_from cX4_from 4 (some .int), Cond.methodLink RX4 114 yX3_sourcesOf, Cond.instanceMethod yX3_sourcesOf, Cond.selects RX3 yX3_sourcesOf yX3_sourcesOf, Cond.code yX3_sourcesOf cX3_sourcesOf 5 (some .int), Cond.methodLink RX3 93 yX3_atTop]
def wsX4_digest_r5 : List Cond := [Cond.methodLink RX4 105 yX3_isNone, Cond.instanceMethod yX3_isNone, Cond.selects RX3 yX3_isNone yX3_isNone, Cond.code yX3_isNone cX3_isNone 1 (some .boolean), Cond.methodLink RX4 178 yX4_soon, Cond.instanceMethod yX4_soon, Cond.selects RX4 yX4_soon yX4_soon, Cond.code yX4_soon cX4_soon 1 (some .int), Cond.methodLink RX4 117 yX3_thursdaysToTop, Cond.instanceMethod yX3_thursdaysToTop, Cond.selects RX3 yX3_thursdaysToTop yX3_thursdaysToTop, Cond.code yX3_thursdaysToTop cX3_thursdaysToTop 2 (some .int), Cond.methodLink RX3 99 yX3_isNone, Cond.methodLink RX4 185 yX4_cure, Cond.instanceMethod yX4_cure, Cond.selects RX4 yX4_cure yX4_cure, Cond.code yX4_cure cX4_cure 3 (some .int), Cond.methodLink RX4 120 yX3_bestToCure, Cond.instanceMethod yX3_bestToCure, Cond.selects RX3 yX3_bestToCure yX3_bestToCure, Cond.code yX3_bestToCure cX3_bestToCure 5 (some .int), Cond.methodLink RX3 96 yX3_unchangedAtTop, Cond.instanceMethod yX3_unchangedAtTop, Cond.selects RX3 yX3_unchangedAtTop yX3_unchangedAtTop]
def wsX4_digest_r6 : List Cond := [Cond.code yX3_unchangedAtTop cX3_unchangedAtTop 4 (some .int), Cond.methodLink RX4 123 yX3_unchangedAtTop, Cond.methodLink RX4 191 yX4_count, Cond.instanceMethod yX4_count, Cond.selects RX4 yX4_count yX4_count, Cond.code yX4_count cX4_count 2 (some .int), Cond.fieldLink RX4 157 "ThursdayRungs$School" "thursdays" "I", Cond.fieldLink RX4 169 "ThursdayRungs$School" "timesTaught" "I", Cond.fieldLink RX4 136 "ThursdayRungs$School" "heard" "I", Cond.fieldLink RX4 36 "ThursdayRungs" "schoolsRead" "I", Cond.methodLink RX4 160 yX3_knowing, Cond.instanceMethod yX3_knowing, Cond.selects RX3 yX3_knowing yX3_knowing, Cond.code yX3_knowing cX3_knowing 3 (some .int), Cond.methodLink RX4 163 yX3_unlikeRules, Cond.instanceMethod yX3_unlikeRules, Cond.selects RX3 yX3_unlikeRules yX3_unlikeRules, Cond.code yX3_unlikeRules cX3_unlikeRules 3 (some .int), Cond.methodLink RX3 123 yJ6_bitCount_0f7a4, Cond.static yJ6_bitCount_0f7a4, Cond.initialized RJ6, Cond.code yJ6_bitCount_0f7a4 cJ6_bitCount_0f7a4 1 (some .int), Cond.constant RJ6 265 (1431655765), Cond.constant RJ6 266 (858993459)]
def wsX4_digest_r7 : List Cond := [Cond.constant RJ6 267 (252645135), Cond.methodLink RX4 166 yX3_illOnes, Cond.instanceMethod yX3_illOnes, Cond.selects RX3 yX3_illOnes yX3_illOnes, Cond.code yX3_illOnes cX3_illOnes 3 (some .int)]
def wsX4_digest : List Cond := .code yX4_digest cX4_digest 4 (some .long) :: ((wsX4_digest_r1 ++ (wsX4_digest_r2 ++ (wsX4_digest_r3 ++ (wsX4_digest_r4 ++ (wsX4_digest_r5 ++ (wsX4_digest_r6 ++ wsX4_digest_r7)))))) ++ wsX40 ++ wsX30 ++ wsX20)
def wsX5_init : List Cond := .code yX5_init cX5_init 1 none :: ([.methodLink RX5 1 objectInit, .instanceMethod objectInit, .code objectInit ⟨#[0xb1]⟩ 1 none, .arrayClass .int, .fieldLink RX5 7 "ThursdayRungsModel" "page" "[I", .fieldLink RX5 13 "ThursdayRungsModel" "rows" "[I", .fieldLink RX5 16 "ThursdayRungsModel" "heards" "[I", .fieldLink RX5 19 "ThursdayRungsModel" "parts" "[I", .fieldLink RX5 22 "ThursdayRungsModel" "savedRows" "[I", .fieldLink RX5 25 "ThursdayRungsModel" "keptRows" "[I", .fieldLink RX5 28 "ThursdayRungsModel" "keptHeards" "[I", .fieldLink RX5 31 "ThursdayRungsModel" "keptSchool" "I"] ++ wsX50)
def wsX5_in : List Cond := .code yX5_in cX5_in 6 (some .boolean) :: ([])
def wsX5_copy : List Cond := .code yX5_copy cX5_copy 3 none :: ([])
def wsX5_letter : List Cond := .code yX5_letter cX5_letter 2 (some .int) :: ([.constantLong RX5 35 (126), .fieldLink RX5 41 "ThursdayRungsModel" "pageMany" "I", .fieldLink RX5 7 "ThursdayRungsModel" "page" "[I", .methodLink RX5 37 yX5_in, .static yX5_in, .initialized RX5, .code yX5_in cX5_in 6 (some .boolean)] ++ wsX50)
def wsX5_blank : List Cond := .code yX5_blank cX5_blank 2 (some .int) :: ([.fieldLink RX5 41 "ThursdayRungsModel" "pageMany" "I"] ++ wsX50)
def wsX5_kindBy : List Cond := .code yX5_kindBy cX5_kindBy 1 (some .int) :: ([])
def wsX5_isGood : List Cond := .code yX5_isGood cX5_isGood 2 (some .boolean) :: ([.constantLong RX5 48 (48), .constantLong RX5 50 (57), .methodLink RX5 44 yX5_kindBy, .static yX5_kindBy, .initialized RX5, .code yX5_kindBy cX5_kindBy 1 (some .int), .methodLink RX5 37 yX5_in, .static yX5_in, .code yX5_in cX5_in 6 (some .boolean)])
def wsX5_faultOf : List Cond := .code yX5_faultOf cX5_faultOf 2 (some .int) :: ([.fieldLink RX5 41 "ThursdayRungsModel" "pageMany" "I", .fieldLink RX5 7 "ThursdayRungsModel" "page" "[I", .methodLink RX5 52 yX5_isGood, .static yX5_isGood, .initialized RX5, .code yX5_isGood cX5_isGood 2 (some .boolean), .constantLong RX5 48 (48), .constantLong RX5 50 (57), .methodLink RX5 44 yX5_kindBy, .static yX5_kindBy, .code yX5_kindBy cX5_kindBy 1 (some .int), .methodLink RX5 37 yX5_in, .static yX5_in, .code yX5_in cX5_in 6 (some .boolean)] ++ wsX50)
def wsX5_fault : List Cond := .code yX5_fault cX5_fault 1 (some .int) :: ([.methodLink RX5 56 yX5_faultOf, .instanceMethod yX5_faultOf, .selects RX5 yX5_faultOf yX5_faultOf, .initialized RX5, .code yX5_faultOf cX5_faultOf 2 (some .int), .fieldLink RX5 41 "ThursdayRungsModel" "pageMany" "I", .fieldLink RX5 7 "ThursdayRungsModel" "page" "[I", .methodLink RX5 52 yX5_isGood, .static yX5_isGood, .code yX5_isGood cX5_isGood 2 (some .boolean), .constantLong RX5 48 (48), .constantLong RX5 50 (57), .methodLink RX5 44 yX5_kindBy, .static yX5_kindBy, .code yX5_kindBy cX5_kindBy 1 (some .int), .methodLink RX5 37 yX5_in, .static yX5_in, .code yX5_in cX5_in 6 (some .boolean)] ++ wsX50)
def wsX5_school : List Cond := .code yX5_school cX5_school 2 (some .int) :: ([.fieldLink RX5 41 "ThursdayRungsModel" "pageMany" "I", .fieldLink RX5 60 "ThursdayRungsModel" "children" "I", .fieldLink RX5 13 "ThursdayRungsModel" "rows" "[I", .fieldLink RX5 7 "ThursdayRungsModel" "page" "[I", .fieldLink RX5 63 "ThursdayRungsModel" "thursdays" "I", .fieldLink RX5 66 "ThursdayRungsModel" "taught" "I", .fieldLink RX5 69 "ThursdayRungsModel" "heardMany" "I", .fieldLink RX5 72 "ThursdayRungsModel" "schoolsRead" "I", .methodLink RX5 56 yX5_faultOf, .instanceMethod yX5_faultOf, .selects RX5 yX5_faultOf yX5_faultOf, .initialized RX5, .code yX5_faultOf cX5_faultOf 2 (some .int), .methodLink RX5 52 yX5_isGood, .static yX5_isGood, .code yX5_isGood cX5_isGood 2 (some .boolean), .constantLong RX5 48 (48), .constantLong RX5 50 (57), .methodLink RX5 44 yX5_kindBy, .static yX5_kindBy, .code yX5_kindBy cX5_kindBy 1 (some .int), .methodLink RX5 37 yX5_in, .static yX5_in, .code yX5_in cX5_in 6 (some .boolean)] ++ wsX50)
def wsX5_lacks : List Cond := .code yX5_lacks cX5_lacks 1 (some .boolean) :: ([.fieldLink RX5 60 "ThursdayRungsModel" "children" "I"] ++ wsX50)
def wsX5_isChild : List Cond := .code yX5_isChild cX5_isChild 2 (some .boolean) :: ([.fieldLink RX5 60 "ThursdayRungsModel" "children" "I", .methodLink RX5 37 yX5_in, .static yX5_in, .initialized RX5, .code yX5_in cX5_in 6 (some .boolean)] ++ wsX50)
def wsX5_isRule : List Cond := .code yX5_isRule cX5_isRule 1 (some .boolean) :: ([.constantLong RX5 75 (11), .methodLink RX5 37 yX5_in, .static yX5_in, .initialized RX5, .code yX5_in cX5_in 6 (some .boolean)])
def wsX5_teachesBy : List Cond := .code yX5_teachesBy cX5_teachesBy 4 (some .int) :: ([])
def wsX5_teachesOf : List Cond := .code yX5_teachesOf cX5_teachesOf 3 (some .int) :: ([.fieldLink RX5 13 "ThursdayRungsModel" "rows" "[I", .methodLink RX5 77 yX5_teachesBy, .static yX5_teachesBy, .initialized RX5, .code yX5_teachesBy cX5_teachesBy 4 (some .int)] ++ wsX50)
def wsX5_isIll : List Cond := .code yX5_isIll cX5_isIll 2 (some .boolean) :: ([.fieldLink RX5 13 "ThursdayRungsModel" "rows" "[I"] ++ wsX50)
def wsX5_wouldTeach : List Cond := .code yX5_wouldTeach cX5_wouldTeach 3 (some .int) :: ([.fieldLink RX5 13 "ThursdayRungsModel" "rows" "[I", .methodLink RX5 81 yX5_isIll, .instanceMethod yX5_isIll, .selects RX5 yX5_isIll yX5_isIll, .initialized RX5, .code yX5_isIll cX5_isIll 2 (some .boolean), .methodLink RX5 85 yX5_teachesOf, .instanceMethod yX5_teachesOf, .selects RX5 yX5_teachesOf yX5_teachesOf, .code yX5_teachesOf cX5_teachesOf 3 (some .int), .methodLink RX5 77 yX5_teachesBy, .static yX5_teachesBy, .code yX5_teachesBy cX5_teachesBy 4 (some .int)] ++ wsX50)
def wsX5_slipsOf : List Cond := .code yX5_slipsOf cX5_slipsOf 7 (some .int) :: ([.fieldLink RX5 69 "ThursdayRungsModel" "heardMany" "I", .fieldLink RX5 13 "ThursdayRungsModel" "rows" "[I", .fieldLink RX5 16 "ThursdayRungsModel" "heards" "[I", .methodLink RX5 77 yX5_teachesBy, .static yX5_teachesBy, .initialized RX5, .code yX5_teachesBy cX5_teachesBy 4 (some .int)] ++ wsX50)
def wsX5_askOf : List Cond := .code yX5_askOf cX5_askOf 9 (some .int) :: ([.fieldLink RX5 19 "ThursdayRungsModel" "parts" "[I", .fieldLink RX5 13 "ThursdayRungsModel" "rows" "[I", .methodLink RX5 92 yX5_slipsOf, .instanceMethod yX5_slipsOf, .selects RX5 yX5_slipsOf yX5_slipsOf, .initialized RX5, .code yX5_slipsOf cX5_slipsOf 7 (some .int), .fieldLink RX5 69 "ThursdayRungsModel" "heardMany" "I", .fieldLink RX5 16 "ThursdayRungsModel" "heards" "[I", .methodLink RX5 77 yX5_teachesBy, .static yX5_teachesBy, .code yX5_teachesBy cX5_teachesBy 4 (some .int)] ++ wsX50)
def wsX5_tellChild_r1 : List Cond := [Cond.fieldLink RX5 13 "ThursdayRungsModel" "rows" "[I", Cond.methodLink RX5 89 yX5_wouldTeach, Cond.instanceMethod yX5_wouldTeach, Cond.selects RX5 yX5_wouldTeach yX5_wouldTeach, Cond.initialized RX5, Cond.code yX5_wouldTeach cX5_wouldTeach 3 (some .int), Cond.methodLink RX5 81 yX5_isIll, Cond.instanceMethod yX5_isIll, Cond.selects RX5 yX5_isIll yX5_isIll, Cond.code yX5_isIll cX5_isIll 2 (some .boolean), Cond.methodLink RX5 85 yX5_teachesOf, Cond.instanceMethod yX5_teachesOf, Cond.selects RX5 yX5_teachesOf yX5_teachesOf, Cond.code yX5_teachesOf cX5_teachesOf 3 (some .int), Cond.methodLink RX5 77 yX5_teachesBy, Cond.static yX5_teachesBy, Cond.code yX5_teachesBy cX5_teachesBy 4 (some .int), Cond.methodLink RX5 92 yX5_slipsOf, Cond.instanceMethod yX5_slipsOf, Cond.selects RX5 yX5_slipsOf yX5_slipsOf, Cond.code yX5_slipsOf cX5_slipsOf 7 (some .int), Cond.fieldLink RX5 69 "ThursdayRungsModel" "heardMany" "I", Cond.fieldLink RX5 16 "ThursdayRungsModel" "heards" "[I", Cond.methodLink RX5 95 yX5_askOf]
def wsX5_tellChild_r2 : List Cond := [Cond.instanceMethod yX5_askOf, Cond.selects RX5 yX5_askOf yX5_askOf, Cond.code yX5_askOf cX5_askOf 9 (some .int), Cond.fieldLink RX5 19 "ThursdayRungsModel" "parts" "[I"]
def wsX5_tellChild : List Cond := .code yX5_tellChild cX5_tellChild 3 (some .int) :: ((wsX5_tellChild_r1 ++ wsX5_tellChild_r2) ++ wsX50)
def wsX5_child_r1 : List Cond := [Cond.methodLink RX5 98 yX5_isChild, Cond.instanceMethod yX5_isChild, Cond.selects RX5 yX5_isChild yX5_isChild, Cond.initialized RX5, Cond.code yX5_isChild cX5_isChild 2 (some .boolean), Cond.fieldLink RX5 60 "ThursdayRungsModel" "children" "I", Cond.methodLink RX5 37 yX5_in, Cond.static yX5_in, Cond.code yX5_in cX5_in 6 (some .boolean), Cond.methodLink RX5 101 yX5_tellChild, Cond.instanceMethod yX5_tellChild, Cond.selects RX5 yX5_tellChild yX5_tellChild, Cond.code yX5_tellChild cX5_tellChild 3 (some .int), Cond.fieldLink RX5 13 "ThursdayRungsModel" "rows" "[I", Cond.methodLink RX5 89 yX5_wouldTeach, Cond.instanceMethod yX5_wouldTeach, Cond.selects RX5 yX5_wouldTeach yX5_wouldTeach, Cond.code yX5_wouldTeach cX5_wouldTeach 3 (some .int), Cond.methodLink RX5 81 yX5_isIll, Cond.instanceMethod yX5_isIll, Cond.selects RX5 yX5_isIll yX5_isIll, Cond.code yX5_isIll cX5_isIll 2 (some .boolean), Cond.methodLink RX5 85 yX5_teachesOf, Cond.instanceMethod yX5_teachesOf]
def wsX5_child_r2 : List Cond := [Cond.selects RX5 yX5_teachesOf yX5_teachesOf, Cond.code yX5_teachesOf cX5_teachesOf 3 (some .int), Cond.methodLink RX5 77 yX5_teachesBy, Cond.static yX5_teachesBy, Cond.code yX5_teachesBy cX5_teachesBy 4 (some .int), Cond.methodLink RX5 92 yX5_slipsOf, Cond.instanceMethod yX5_slipsOf, Cond.selects RX5 yX5_slipsOf yX5_slipsOf, Cond.code yX5_slipsOf cX5_slipsOf 7 (some .int), Cond.fieldLink RX5 69 "ThursdayRungsModel" "heardMany" "I", Cond.fieldLink RX5 16 "ThursdayRungsModel" "heards" "[I", Cond.methodLink RX5 95 yX5_askOf, Cond.instanceMethod yX5_askOf, Cond.selects RX5 yX5_askOf yX5_askOf, Cond.code yX5_askOf cX5_askOf 9 (some .int), Cond.fieldLink RX5 19 "ThursdayRungsModel" "parts" "[I"]
def wsX5_child : List Cond := .code yX5_child cX5_child 3 (some .int) :: ((wsX5_child_r1 ++ wsX5_child_r2) ++ wsX50)
def wsX5_as : List Cond := .code yX5_as cX5_as 5 (some .int) :: ([.constantLong RX5 104 (4), .fieldLink RX5 13 "ThursdayRungsModel" "rows" "[I", .methodLink RX5 98 yX5_isChild, .instanceMethod yX5_isChild, .selects RX5 yX5_isChild yX5_isChild, .initialized RX5, .code yX5_isChild cX5_isChild 2 (some .boolean), .fieldLink RX5 60 "ThursdayRungsModel" "children" "I", .methodLink RX5 37 yX5_in, .static yX5_in, .code yX5_in cX5_in 6 (some .boolean)] ++ wsX50)
def wsX5_teaches : List Cond := .code yX5_teaches cX5_teaches 3 (some .int) :: ([.methodLink RX5 98 yX5_isChild, .instanceMethod yX5_isChild, .selects RX5 yX5_isChild yX5_isChild, .initialized RX5, .code yX5_isChild cX5_isChild 2 (some .boolean), .fieldLink RX5 60 "ThursdayRungsModel" "children" "I", .methodLink RX5 37 yX5_in, .static yX5_in, .code yX5_in cX5_in 6 (some .boolean), .methodLink RX5 106 yX5_isRule, .static yX5_isRule, .code yX5_isRule cX5_isRule 1 (some .boolean), .constantLong RX5 75 (11), .methodLink RX5 85 yX5_teachesOf, .instanceMethod yX5_teachesOf, .selects RX5 yX5_teachesOf yX5_teachesOf, .code yX5_teachesOf cX5_teachesOf 3 (some .int), .fieldLink RX5 13 "ThursdayRungsModel" "rows" "[I", .methodLink RX5 77 yX5_teachesBy, .static yX5_teachesBy, .code yX5_teachesBy cX5_teachesBy 4 (some .int)] ++ wsX50)
def wsX5_tell : List Cond := .code yX5_tell cX5_tell 4 (some .int) :: ([.fieldLink RX5 13 "ThursdayRungsModel" "rows" "[I", .methodLink RX5 98 yX5_isChild, .instanceMethod yX5_isChild, .selects RX5 yX5_isChild yX5_isChild, .initialized RX5, .code yX5_isChild cX5_isChild 2 (some .boolean), .fieldLink RX5 60 "ThursdayRungsModel" "children" "I", .methodLink RX5 37 yX5_in, .static yX5_in, .code yX5_in cX5_in 6 (some .boolean), .methodLink RX5 106 yX5_isRule, .static yX5_isRule, .code yX5_isRule cX5_isRule 1 (some .boolean), .constantLong RX5 75 (11)] ++ wsX50)
def wsX5_ill : List Cond := .code yX5_ill cX5_ill 4 (some .int) :: ([.fieldLink RX5 13 "ThursdayRungsModel" "rows" "[I", .methodLink RX5 98 yX5_isChild, .instanceMethod yX5_isChild, .selects RX5 yX5_isChild yX5_isChild, .initialized RX5, .code yX5_isChild cX5_isChild 2 (some .boolean), .fieldLink RX5 60 "ThursdayRungsModel" "children" "I", .methodLink RX5 37 yX5_in, .static yX5_in, .code yX5_in cX5_in 6 (some .boolean)] ++ wsX50)
def wsX5_slip : List Cond := .code yX5_slip cX5_slip 4 (some .int) :: ([.constantLong RX5 109 (9), .fieldLink RX5 13 "ThursdayRungsModel" "rows" "[I", .methodLink RX5 98 yX5_isChild, .instanceMethod yX5_isChild, .selects RX5 yX5_isChild yX5_isChild, .initialized RX5, .code yX5_isChild cX5_isChild 2 (some .boolean), .fieldLink RX5 60 "ThursdayRungsModel" "children" "I", .methodLink RX5 37 yX5_in, .static yX5_in, .code yX5_in cX5_in 6 (some .boolean)] ++ wsX50)
def wsX5_goesUp : List Cond := .code yX5_goesUp cX5_goesUp 4 (some .int) :: ([.fieldLink RX5 111 "ThursdayRungsModel" "topTaught" "Z", .fieldLink RX5 60 "ThursdayRungsModel" "children" "I", .fieldLink RX5 13 "ThursdayRungsModel" "rows" "[I", .methodLink RX5 89 yX5_wouldTeach, .instanceMethod yX5_wouldTeach, .selects RX5 yX5_wouldTeach yX5_wouldTeach, .initialized RX5, .code yX5_wouldTeach cX5_wouldTeach 3 (some .int), .methodLink RX5 81 yX5_isIll, .instanceMethod yX5_isIll, .selects RX5 yX5_isIll yX5_isIll, .code yX5_isIll cX5_isIll 2 (some .boolean), .methodLink RX5 85 yX5_teachesOf, .instanceMethod yX5_teachesOf, .selects RX5 yX5_teachesOf yX5_teachesOf, .code yX5_teachesOf cX5_teachesOf 3 (some .int), .methodLink RX5 77 yX5_teachesBy, .static yX5_teachesBy, .code yX5_teachesBy cX5_teachesBy 4 (some .int)] ++ wsX50)
def wsX5_thursday_r1 : List Cond := [Cond.fieldLink RX5 63 "ThursdayRungsModel" "thursdays" "I", Cond.fieldLink RX5 66 "ThursdayRungsModel" "taught" "I", Cond.methodLink RX5 115 yX5_lacks, Cond.instanceMethod yX5_lacks, Cond.selects RX5 yX5_lacks yX5_lacks, Cond.initialized RX5, Cond.code yX5_lacks cX5_lacks 1 (some .boolean), Cond.fieldLink RX5 60 "ThursdayRungsModel" "children" "I", Cond.methodLink RX5 119 yX5_goesUp, Cond.instanceMethod yX5_goesUp, Cond.selects RX5 yX5_goesUp yX5_goesUp, Cond.code yX5_goesUp cX5_goesUp 4 (some .int), Cond.fieldLink RX5 111 "ThursdayRungsModel" "topTaught" "Z", Cond.fieldLink RX5 13 "ThursdayRungsModel" "rows" "[I", Cond.methodLink RX5 89 yX5_wouldTeach, Cond.instanceMethod yX5_wouldTeach, Cond.selects RX5 yX5_wouldTeach yX5_wouldTeach, Cond.code yX5_wouldTeach cX5_wouldTeach 3 (some .int), Cond.methodLink RX5 81 yX5_isIll, Cond.instanceMethod yX5_isIll, Cond.selects RX5 yX5_isIll yX5_isIll, Cond.code yX5_isIll cX5_isIll 2 (some .boolean), Cond.methodLink RX5 85 yX5_teachesOf, Cond.instanceMethod yX5_teachesOf]
def wsX5_thursday_r2 : List Cond := [Cond.selects RX5 yX5_teachesOf yX5_teachesOf, Cond.code yX5_teachesOf cX5_teachesOf 3 (some .int), Cond.methodLink RX5 77 yX5_teachesBy, Cond.static yX5_teachesBy, Cond.code yX5_teachesBy cX5_teachesBy 4 (some .int)]
def wsX5_thursday : List Cond := .code yX5_thursday cX5_thursday 2 (some .int) :: ((wsX5_thursday_r1 ++ wsX5_thursday_r2) ++ wsX50)
def wsX5_arrivesOf : List Cond := .code yX5_arrivesOf cX5_arrivesOf 5 (some .int) :: ([.fieldLink RX5 60 "ThursdayRungsModel" "children" "I", .methodLink RX5 85 yX5_teachesOf, .instanceMethod yX5_teachesOf, .selects RX5 yX5_teachesOf yX5_teachesOf, .initialized RX5, .code yX5_teachesOf cX5_teachesOf 3 (some .int), .fieldLink RX5 13 "ThursdayRungsModel" "rows" "[I", .methodLink RX5 77 yX5_teachesBy, .static yX5_teachesBy, .code yX5_teachesBy cX5_teachesBy 4 (some .int)] ++ wsX50)
def wsX5_arrives_r1 : List Cond := [Cond.methodLink RX5 98 yX5_isChild, Cond.instanceMethod yX5_isChild, Cond.selects RX5 yX5_isChild yX5_isChild, Cond.initialized RX5, Cond.code yX5_isChild cX5_isChild 2 (some .boolean), Cond.fieldLink RX5 60 "ThursdayRungsModel" "children" "I", Cond.methodLink RX5 37 yX5_in, Cond.static yX5_in, Cond.code yX5_in cX5_in 6 (some .boolean), Cond.methodLink RX5 106 yX5_isRule, Cond.static yX5_isRule, Cond.code yX5_isRule cX5_isRule 1 (some .boolean), Cond.constantLong RX5 75 (11), Cond.methodLink RX5 122 yX5_arrivesOf, Cond.instanceMethod yX5_arrivesOf, Cond.selects RX5 yX5_arrivesOf yX5_arrivesOf, Cond.code yX5_arrivesOf cX5_arrivesOf 5 (some .int), Cond.methodLink RX5 85 yX5_teachesOf, Cond.instanceMethod yX5_teachesOf, Cond.selects RX5 yX5_teachesOf yX5_teachesOf, Cond.code yX5_teachesOf cX5_teachesOf 3 (some .int), Cond.fieldLink RX5 13 "ThursdayRungsModel" "rows" "[I", Cond.methodLink RX5 77 yX5_teachesBy, Cond.static yX5_teachesBy]
def wsX5_arrives_r2 : List Cond := [Cond.code yX5_teachesBy cX5_teachesBy 4 (some .int)]
def wsX5_arrives : List Cond := .code yX5_arrives cX5_arrives 3 (some .int) :: ((wsX5_arrives_r1 ++ wsX5_arrives_r2) ++ wsX50)
def wsX5_fromOf : List Cond := .code yX5_fromOf cX5_fromOf 5 (some .int) :: ([.methodLink RX5 122 yX5_arrivesOf, .instanceMethod yX5_arrivesOf, .selects RX5 yX5_arrivesOf yX5_arrivesOf, .initialized RX5, .code yX5_arrivesOf cX5_arrivesOf 5 (some .int), .fieldLink RX5 60 "ThursdayRungsModel" "children" "I", .methodLink RX5 85 yX5_teachesOf, .instanceMethod yX5_teachesOf, .selects RX5 yX5_teachesOf yX5_teachesOf, .code yX5_teachesOf cX5_teachesOf 3 (some .int), .fieldLink RX5 13 "ThursdayRungsModel" "rows" "[I", .methodLink RX5 77 yX5_teachesBy, .static yX5_teachesBy, .code yX5_teachesBy cX5_teachesBy 4 (some .int)] ++ wsX50)
def wsX5_from_r1 : List Cond := [Cond.methodLink RX5 98 yX5_isChild, Cond.instanceMethod yX5_isChild, Cond.selects RX5 yX5_isChild yX5_isChild, Cond.initialized RX5, Cond.code yX5_isChild cX5_isChild 2 (some .boolean), Cond.fieldLink RX5 60 "ThursdayRungsModel" "children" "I", Cond.methodLink RX5 37 yX5_in, Cond.static yX5_in, Cond.code yX5_in cX5_in 6 (some .boolean), Cond.methodLink RX5 106 yX5_isRule, Cond.static yX5_isRule, Cond.code yX5_isRule cX5_isRule 1 (some .boolean), Cond.constantLong RX5 75 (11), Cond.methodLink RX5 125 yX5_fromOf, Cond.instanceMethod yX5_fromOf, Cond.selects RX5 yX5_fromOf yX5_fromOf, Cond.code yX5_fromOf cX5_fromOf 5 (some .int), Cond.methodLink RX5 122 yX5_arrivesOf, Cond.instanceMethod yX5_arrivesOf, Cond.selects RX5 yX5_arrivesOf yX5_arrivesOf, Cond.code yX5_arrivesOf cX5_arrivesOf 5 (some .int), Cond.methodLink RX5 85 yX5_teachesOf, Cond.instanceMethod yX5_teachesOf, Cond.selects RX5 yX5_teachesOf yX5_teachesOf]
def wsX5_from_r2 : List Cond := [Cond.code yX5_teachesOf cX5_teachesOf 3 (some .int), Cond.fieldLink RX5 13 "ThursdayRungsModel" "rows" "[I", Cond.methodLink RX5 77 yX5_teachesBy, Cond.static yX5_teachesBy, Cond.code yX5_teachesBy cX5_teachesBy 4 (some .int)]
def wsX5_from : List Cond := .code yX5_from cX5_from 3 (some .int) :: ((wsX5_from_r1 ++ wsX5_from_r2) ++ wsX50)
def wsX5_soonOf : List Cond := .code yX5_soonOf cX5_soonOf 2 (some .int) :: ([.fieldLink RX5 13 "ThursdayRungsModel" "rows" "[I", .fieldLink RX5 60 "ThursdayRungsModel" "children" "I", .methodLink RX5 81 yX5_isIll, .instanceMethod yX5_isIll, .selects RX5 yX5_isIll yX5_isIll, .initialized RX5, .code yX5_isIll cX5_isIll 2 (some .boolean)] ++ wsX50)
def wsX5_soon : List Cond := .code yX5_soon cX5_soon 1 (some .int) :: ([.methodLink RX5 115 yX5_lacks, .instanceMethod yX5_lacks, .selects RX5 yX5_lacks yX5_lacks, .initialized RX5, .code yX5_lacks cX5_lacks 1 (some .boolean), .fieldLink RX5 60 "ThursdayRungsModel" "children" "I", .methodLink RX5 128 yX5_soonOf, .instanceMethod yX5_soonOf, .selects RX5 yX5_soonOf yX5_soonOf, .code yX5_soonOf cX5_soonOf 2 (some .int), .fieldLink RX5 13 "ThursdayRungsModel" "rows" "[I", .methodLink RX5 81 yX5_isIll, .instanceMethod yX5_isIll, .selects RX5 yX5_isIll yX5_isIll, .code yX5_isIll cX5_isIll 2 (some .boolean)] ++ wsX50)
def wsX5_asTheyAre : List Cond := .code yX5_asTheyAre cX5_asTheyAre 3 (some .int) :: ([.methodLink RX5 115 yX5_lacks, .instanceMethod yX5_lacks, .selects RX5 yX5_lacks yX5_lacks, .initialized RX5, .code yX5_lacks cX5_lacks 1 (some .boolean), .fieldLink RX5 60 "ThursdayRungsModel" "children" "I", .methodLink RX5 122 yX5_arrivesOf, .instanceMethod yX5_arrivesOf, .selects RX5 yX5_arrivesOf yX5_arrivesOf, .code yX5_arrivesOf cX5_arrivesOf 5 (some .int), .methodLink RX5 85 yX5_teachesOf, .instanceMethod yX5_teachesOf, .selects RX5 yX5_teachesOf yX5_teachesOf, .code yX5_teachesOf cX5_teachesOf 3 (some .int), .fieldLink RX5 13 "ThursdayRungsModel" "rows" "[I", .methodLink RX5 77 yX5_teachesBy, .static yX5_teachesBy, .code yX5_teachesBy cX5_teachesBy 4 (some .int)] ++ wsX50)
def wsX5_cureOf : List Cond := .code yX5_cureOf cX5_cureOf 7 (some .int) :: ([.fieldLink RX5 60 "ThursdayRungsModel" "children" "I", .fieldLink RX5 13 "ThursdayRungsModel" "rows" "[I", .methodLink RX5 131 yX5_asTheyAre, .instanceMethod yX5_asTheyAre, .selects RX5 yX5_asTheyAre yX5_asTheyAre, .initialized RX5, .code yX5_asTheyAre cX5_asTheyAre 3 (some .int), .methodLink RX5 115 yX5_lacks, .instanceMethod yX5_lacks, .selects RX5 yX5_lacks yX5_lacks, .code yX5_lacks cX5_lacks 1 (some .boolean), .methodLink RX5 122 yX5_arrivesOf, .instanceMethod yX5_arrivesOf, .selects RX5 yX5_arrivesOf yX5_arrivesOf, .code yX5_arrivesOf cX5_arrivesOf 5 (some .int), .methodLink RX5 85 yX5_teachesOf, .instanceMethod yX5_teachesOf, .selects RX5 yX5_teachesOf yX5_teachesOf, .code yX5_teachesOf cX5_teachesOf 3 (some .int), .methodLink RX5 77 yX5_teachesBy, .static yX5_teachesBy, .code yX5_teachesBy cX5_teachesBy 4 (some .int)] ++ wsX50)
def wsX5_cure_r1 : List Cond := [Cond.methodLink RX5 37 yX5_in, Cond.static yX5_in, Cond.initialized RX5, Cond.code yX5_in cX5_in 6 (some .boolean), Cond.methodLink RX5 115 yX5_lacks, Cond.instanceMethod yX5_lacks, Cond.selects RX5 yX5_lacks yX5_lacks, Cond.code yX5_lacks cX5_lacks 1 (some .boolean), Cond.fieldLink RX5 60 "ThursdayRungsModel" "children" "I", Cond.methodLink RX5 134 yX5_cureOf, Cond.instanceMethod yX5_cureOf, Cond.selects RX5 yX5_cureOf yX5_cureOf, Cond.code yX5_cureOf cX5_cureOf 7 (some .int), Cond.fieldLink RX5 13 "ThursdayRungsModel" "rows" "[I", Cond.methodLink RX5 131 yX5_asTheyAre, Cond.instanceMethod yX5_asTheyAre, Cond.selects RX5 yX5_asTheyAre yX5_asTheyAre, Cond.code yX5_asTheyAre cX5_asTheyAre 3 (some .int), Cond.methodLink RX5 122 yX5_arrivesOf, Cond.instanceMethod yX5_arrivesOf, Cond.selects RX5 yX5_arrivesOf yX5_arrivesOf, Cond.code yX5_arrivesOf cX5_arrivesOf 5 (some .int), Cond.methodLink RX5 85 yX5_teachesOf, Cond.instanceMethod yX5_teachesOf]
def wsX5_cure_r2 : List Cond := [Cond.selects RX5 yX5_teachesOf yX5_teachesOf, Cond.code yX5_teachesOf cX5_teachesOf 3 (some .int), Cond.methodLink RX5 77 yX5_teachesBy, Cond.static yX5_teachesBy, Cond.code yX5_teachesBy cX5_teachesBy 4 (some .int)]
def wsX5_cure : List Cond := .code yX5_cure cX5_cure 2 (some .int) :: ((wsX5_cure_r1 ++ wsX5_cure_r2) ++ wsX50)
def wsX5_hear : List Cond := .code yX5_hear cX5_hear 4 (some .int) :: ([.fieldLink RX5 69 "ThursdayRungsModel" "heardMany" "I", .fieldLink RX5 16 "ThursdayRungsModel" "heards" "[I", .methodLink RX5 98 yX5_isChild, .instanceMethod yX5_isChild, .selects RX5 yX5_isChild yX5_isChild, .initialized RX5, .code yX5_isChild cX5_isChild 2 (some .boolean), .fieldLink RX5 60 "ThursdayRungsModel" "children" "I", .methodLink RX5 37 yX5_in, .static yX5_in, .code yX5_in cX5_in 6 (some .boolean), .methodLink RX5 106 yX5_isRule, .static yX5_isRule, .code yX5_isRule cX5_isRule 1 (some .boolean), .constantLong RX5 75 (11)] ++ wsX50)
def wsX5_forget : List Cond := .code yX5_forget cX5_forget 2 (some .int) :: ([.fieldLink RX5 69 "ThursdayRungsModel" "heardMany" "I"] ++ wsX50)
def wsX5_draw : List Cond := .code yX5_draw cX5_draw 2 (some .int) :: ([.constantLong RX5 137 (1103515245), .fieldLink RX5 139 "ThursdayRungsModel" "seedNow" "I", .constantLong RX5 142 (12345), .constantLong RX5 144 (2147483647), .constant RX5 146 (65536)] ++ wsX50)
def wsX5_terms_r1 : List Cond := [Cond.constantLong RX5 147 (60), Cond.constantLong RX5 149 (2), Cond.fieldLink RX5 13 "ThursdayRungsModel" "rows" "[I", Cond.fieldLink RX5 22 "ThursdayRungsModel" "savedRows" "[I", Cond.fieldLink RX5 139 "ThursdayRungsModel" "seedNow" "I", Cond.fieldLink RX5 60 "ThursdayRungsModel" "children" "I", Cond.fieldLink RX5 111 "ThursdayRungsModel" "topTaught" "Z", Cond.methodLink RX5 37 yX5_in, Cond.static yX5_in, Cond.initialized RX5, Cond.code yX5_in cX5_in 6 (some .boolean), Cond.methodLink RX5 115 yX5_lacks, Cond.instanceMethod yX5_lacks, Cond.selects RX5 yX5_lacks yX5_lacks, Cond.code yX5_lacks cX5_lacks 1 (some .boolean), Cond.methodLink RX5 151 yX5_copy, Cond.static yX5_copy, Cond.code yX5_copy cX5_copy 3 none, Cond.methodLink RX5 155 yX5_draw, Cond.instanceMethod yX5_draw, Cond.selects RX5 yX5_draw yX5_draw, Cond.code yX5_draw cX5_draw 2 (some .int), Cond.constantLong RX5 137 (1103515245), Cond.constantLong RX5 142 (12345)]
def wsX5_terms_r2 : List Cond := [Cond.constantLong RX5 144 (2147483647), Cond.constant RX5 146 (65536), Cond.methodLink RX5 119 yX5_goesUp, Cond.instanceMethod yX5_goesUp, Cond.selects RX5 yX5_goesUp yX5_goesUp, Cond.code yX5_goesUp cX5_goesUp 4 (some .int), Cond.methodLink RX5 89 yX5_wouldTeach, Cond.instanceMethod yX5_wouldTeach, Cond.selects RX5 yX5_wouldTeach yX5_wouldTeach, Cond.code yX5_wouldTeach cX5_wouldTeach 3 (some .int), Cond.methodLink RX5 81 yX5_isIll, Cond.instanceMethod yX5_isIll, Cond.selects RX5 yX5_isIll yX5_isIll, Cond.code yX5_isIll cX5_isIll 2 (some .boolean), Cond.methodLink RX5 85 yX5_teachesOf, Cond.instanceMethod yX5_teachesOf, Cond.selects RX5 yX5_teachesOf yX5_teachesOf, Cond.code yX5_teachesOf cX5_teachesOf 3 (some .int), Cond.methodLink RX5 77 yX5_teachesBy, Cond.static yX5_teachesBy, Cond.code yX5_teachesBy cX5_teachesBy 4 (some .int)]
def wsX5_terms : List Cond := .code yX5_terms cX5_terms 8 (some .int) :: ((wsX5_terms_r1 ++ wsX5_terms_r2) ++ wsX50)
def wsX5_image : List Cond := .code yX5_image cX5_image 1 (some .int) :: ([.fieldLink RX5 13 "ThursdayRungsModel" "rows" "[I", .fieldLink RX5 25 "ThursdayRungsModel" "keptRows" "[I", .fieldLink RX5 16 "ThursdayRungsModel" "heards" "[I", .fieldLink RX5 28 "ThursdayRungsModel" "keptHeards" "[I", .fieldLink RX5 63 "ThursdayRungsModel" "thursdays" "I", .fieldLink RX5 158 "ThursdayRungsModel" "keptThursdays" "I", .fieldLink RX5 66 "ThursdayRungsModel" "taught" "I", .fieldLink RX5 161 "ThursdayRungsModel" "keptTaught" "I", .fieldLink RX5 69 "ThursdayRungsModel" "heardMany" "I", .fieldLink RX5 164 "ThursdayRungsModel" "keptHeard" "I", .fieldLink RX5 72 "ThursdayRungsModel" "schoolsRead" "I", .fieldLink RX5 31 "ThursdayRungsModel" "keptSchool" "I", .methodLink RX5 115 yX5_lacks, .instanceMethod yX5_lacks, .selects RX5 yX5_lacks yX5_lacks, .initialized RX5, .code yX5_lacks cX5_lacks 1 (some .boolean), .fieldLink RX5 60 "ThursdayRungsModel" "children" "I", .methodLink RX5 151 yX5_copy, .static yX5_copy, .code yX5_copy cX5_copy 3 none] ++ wsX50)
def wsX5_restore : List Cond := .code yX5_restore cX5_restore 1 (some .int) :: ([.fieldLink RX5 31 "ThursdayRungsModel" "keptSchool" "I", .fieldLink RX5 72 "ThursdayRungsModel" "schoolsRead" "I", .fieldLink RX5 25 "ThursdayRungsModel" "keptRows" "[I", .fieldLink RX5 13 "ThursdayRungsModel" "rows" "[I", .fieldLink RX5 28 "ThursdayRungsModel" "keptHeards" "[I", .fieldLink RX5 16 "ThursdayRungsModel" "heards" "[I", .fieldLink RX5 158 "ThursdayRungsModel" "keptThursdays" "I", .fieldLink RX5 63 "ThursdayRungsModel" "thursdays" "I", .fieldLink RX5 161 "ThursdayRungsModel" "keptTaught" "I", .fieldLink RX5 66 "ThursdayRungsModel" "taught" "I", .fieldLink RX5 164 "ThursdayRungsModel" "keptHeard" "I", .fieldLink RX5 69 "ThursdayRungsModel" "heardMany" "I", .methodLink RX5 151 yX5_copy, .static yX5_copy, .initialized RX5, .code yX5_copy cX5_copy 3 none] ++ wsX50)
def wsX5_knowing : List Cond := .code yX5_knowing cX5_knowing 3 (some .int) :: ([.fieldLink RX5 60 "ThursdayRungsModel" "children" "I", .fieldLink RX5 13 "ThursdayRungsModel" "rows" "[I"] ++ wsX50)
def wsX5_unlike : List Cond := .code yX5_unlike cX5_unlike 5 (some .int) :: ([.fieldLink RX5 60 "ThursdayRungsModel" "children" "I", .fieldLink RX5 13 "ThursdayRungsModel" "rows" "[I"] ++ wsX50)
def wsX5_illMany : List Cond := .code yX5_illMany cX5_illMany 3 (some .int) :: ([.fieldLink RX5 60 "ThursdayRungsModel" "children" "I", .fieldLink RX5 13 "ThursdayRungsModel" "rows" "[I"] ++ wsX50)
def wsX5_countOf_r1 : List Cond := [Cond.fieldLink RX5 60 "ThursdayRungsModel" "children" "I", Cond.fieldLink RX5 63 "ThursdayRungsModel" "thursdays" "I", Cond.fieldLink RX5 66 "ThursdayRungsModel" "taught" "I", Cond.fieldLink RX5 69 "ThursdayRungsModel" "heardMany" "I", Cond.fieldLink RX5 41 "ThursdayRungsModel" "pageMany" "I", Cond.fieldLink RX5 72 "ThursdayRungsModel" "schoolsRead" "I", Cond.methodLink RX5 167 yX5_knowing, Cond.instanceMethod yX5_knowing, Cond.selects RX5 yX5_knowing yX5_knowing, Cond.initialized RX5, Cond.code yX5_knowing cX5_knowing 3 (some .int), Cond.fieldLink RX5 13 "ThursdayRungsModel" "rows" "[I", Cond.methodLink RX5 170 yX5_unlike, Cond.instanceMethod yX5_unlike, Cond.selects RX5 yX5_unlike yX5_unlike, Cond.code yX5_unlike cX5_unlike 5 (some .int), Cond.methodLink RX5 173 yX5_illMany, Cond.instanceMethod yX5_illMany, Cond.selects RX5 yX5_illMany yX5_illMany, Cond.code yX5_illMany cX5_illMany 3 (some .int), Cond.methodLink RX5 131 yX5_asTheyAre, Cond.instanceMethod yX5_asTheyAre, Cond.selects RX5 yX5_asTheyAre yX5_asTheyAre, Cond.code yX5_asTheyAre cX5_asTheyAre 3 (some .int)]
def wsX5_countOf_r2 : List Cond := [Cond.methodLink RX5 115 yX5_lacks, Cond.instanceMethod yX5_lacks, Cond.selects RX5 yX5_lacks yX5_lacks, Cond.code yX5_lacks cX5_lacks 1 (some .boolean), Cond.methodLink RX5 122 yX5_arrivesOf, Cond.instanceMethod yX5_arrivesOf, Cond.selects RX5 yX5_arrivesOf yX5_arrivesOf, Cond.code yX5_arrivesOf cX5_arrivesOf 5 (some .int), Cond.methodLink RX5 85 yX5_teachesOf, Cond.instanceMethod yX5_teachesOf, Cond.selects RX5 yX5_teachesOf yX5_teachesOf, Cond.code yX5_teachesOf cX5_teachesOf 3 (some .int), Cond.methodLink RX5 77 yX5_teachesBy, Cond.static yX5_teachesBy, Cond.code yX5_teachesBy cX5_teachesBy 4 (some .int)]
def wsX5_countOf : List Cond := .code yX5_countOf cX5_countOf 2 (some .int) :: ((wsX5_countOf_r1 ++ wsX5_countOf_r2) ++ wsX50)
def wsX5_count_r1 : List Cond := [Cond.methodLink RX5 176 yX5_countOf, Cond.instanceMethod yX5_countOf, Cond.selects RX5 yX5_countOf yX5_countOf, Cond.initialized RX5, Cond.code yX5_countOf cX5_countOf 2 (some .int), Cond.fieldLink RX5 60 "ThursdayRungsModel" "children" "I", Cond.fieldLink RX5 63 "ThursdayRungsModel" "thursdays" "I", Cond.fieldLink RX5 66 "ThursdayRungsModel" "taught" "I", Cond.fieldLink RX5 69 "ThursdayRungsModel" "heardMany" "I", Cond.fieldLink RX5 41 "ThursdayRungsModel" "pageMany" "I", Cond.fieldLink RX5 72 "ThursdayRungsModel" "schoolsRead" "I", Cond.methodLink RX5 167 yX5_knowing, Cond.instanceMethod yX5_knowing, Cond.selects RX5 yX5_knowing yX5_knowing, Cond.code yX5_knowing cX5_knowing 3 (some .int), Cond.fieldLink RX5 13 "ThursdayRungsModel" "rows" "[I", Cond.methodLink RX5 170 yX5_unlike, Cond.instanceMethod yX5_unlike, Cond.selects RX5 yX5_unlike yX5_unlike, Cond.code yX5_unlike cX5_unlike 5 (some .int), Cond.methodLink RX5 173 yX5_illMany, Cond.instanceMethod yX5_illMany, Cond.selects RX5 yX5_illMany yX5_illMany, Cond.code yX5_illMany cX5_illMany 3 (some .int)]
def wsX5_count_r2 : List Cond := [Cond.methodLink RX5 131 yX5_asTheyAre, Cond.instanceMethod yX5_asTheyAre, Cond.selects RX5 yX5_asTheyAre yX5_asTheyAre, Cond.code yX5_asTheyAre cX5_asTheyAre 3 (some .int), Cond.methodLink RX5 115 yX5_lacks, Cond.instanceMethod yX5_lacks, Cond.selects RX5 yX5_lacks yX5_lacks, Cond.code yX5_lacks cX5_lacks 1 (some .boolean), Cond.methodLink RX5 122 yX5_arrivesOf, Cond.instanceMethod yX5_arrivesOf, Cond.selects RX5 yX5_arrivesOf yX5_arrivesOf, Cond.code yX5_arrivesOf cX5_arrivesOf 5 (some .int), Cond.methodLink RX5 85 yX5_teachesOf, Cond.instanceMethod yX5_teachesOf, Cond.selects RX5 yX5_teachesOf yX5_teachesOf, Cond.code yX5_teachesOf cX5_teachesOf 3 (some .int), Cond.methodLink RX5 77 yX5_teachesBy, Cond.static yX5_teachesBy, Cond.code yX5_teachesBy cX5_teachesBy 4 (some .int)]
def wsX5_count : List Cond := .code yX5_count cX5_count 2 (some .int) :: ((wsX5_count_r1 ++ wsX5_count_r2) ++ wsX50)
def wsX5_say : List Cond := .code yX5_say cX5_say 3 none :: ([.constantLong RX5 179 (31), .fieldLink RX5 181 "ThursdayRungsModel" "hash" "J"] ++ wsX50)
def wsX5_sayChild_r1 : List Cond := [Cond.methodLink RX5 101 yX5_tellChild, Cond.instanceMethod yX5_tellChild, Cond.selects RX5 yX5_tellChild yX5_tellChild, Cond.initialized RX5, Cond.code yX5_tellChild cX5_tellChild 3 (some .int), Cond.fieldLink RX5 13 "ThursdayRungsModel" "rows" "[I", Cond.methodLink RX5 89 yX5_wouldTeach, Cond.instanceMethod yX5_wouldTeach, Cond.selects RX5 yX5_wouldTeach yX5_wouldTeach, Cond.code yX5_wouldTeach cX5_wouldTeach 3 (some .int), Cond.methodLink RX5 81 yX5_isIll, Cond.instanceMethod yX5_isIll, Cond.selects RX5 yX5_isIll yX5_isIll, Cond.code yX5_isIll cX5_isIll 2 (some .boolean), Cond.methodLink RX5 85 yX5_teachesOf, Cond.instanceMethod yX5_teachesOf, Cond.selects RX5 yX5_teachesOf yX5_teachesOf, Cond.code yX5_teachesOf cX5_teachesOf 3 (some .int), Cond.methodLink RX5 77 yX5_teachesBy, Cond.static yX5_teachesBy, Cond.code yX5_teachesBy cX5_teachesBy 4 (some .int), Cond.methodLink RX5 92 yX5_slipsOf, Cond.instanceMethod yX5_slipsOf, Cond.selects RX5 yX5_slipsOf yX5_slipsOf]
def wsX5_sayChild_r2 : List Cond := [Cond.code yX5_slipsOf cX5_slipsOf 7 (some .int), Cond.fieldLink RX5 69 "ThursdayRungsModel" "heardMany" "I", Cond.fieldLink RX5 16 "ThursdayRungsModel" "heards" "[I", Cond.methodLink RX5 95 yX5_askOf, Cond.instanceMethod yX5_askOf, Cond.selects RX5 yX5_askOf yX5_askOf, Cond.code yX5_askOf cX5_askOf 9 (some .int), Cond.fieldLink RX5 19 "ThursdayRungsModel" "parts" "[I", Cond.methodLink RX5 185 yX5_say, Cond.instanceMethod yX5_say, Cond.selects RX5 yX5_say yX5_say, Cond.code yX5_say cX5_say 3 none, Cond.constantLong RX5 179 (31), Cond.fieldLink RX5 181 "ThursdayRungsModel" "hash" "J", Cond.methodLink RX5 122 yX5_arrivesOf, Cond.instanceMethod yX5_arrivesOf, Cond.selects RX5 yX5_arrivesOf yX5_arrivesOf, Cond.code yX5_arrivesOf cX5_arrivesOf 5 (some .int), Cond.fieldLink RX5 60 "ThursdayRungsModel" "children" "I", Cond.methodLink RX5 125 yX5_fromOf, Cond.instanceMethod yX5_fromOf, Cond.selects RX5 yX5_fromOf yX5_fromOf, Cond.code yX5_fromOf cX5_fromOf 5 (some .int)]
def wsX5_sayChild : List Cond := .code yX5_sayChild cX5_sayChild 3 none :: ((wsX5_sayChild_r1 ++ wsX5_sayChild_r2) ++ wsX50)
def wsX5_digest_r1 : List Cond := [Cond.constantLong RX5 189 (1039), Cond.fieldLink RX5 181 "ThursdayRungsModel" "hash" "J", Cond.fieldLink RX5 60 "ThursdayRungsModel" "children" "I", Cond.fieldLink RX5 41 "ThursdayRungsModel" "pageMany" "I", Cond.fieldLink RX5 7 "ThursdayRungsModel" "page" "[I", Cond.methodLink RX5 191 yX5_sayChild, Cond.instanceMethod yX5_sayChild, Cond.selects RX5 yX5_sayChild yX5_sayChild, Cond.initialized RX5, Cond.code yX5_sayChild cX5_sayChild 3 none, Cond.methodLink RX5 101 yX5_tellChild, Cond.instanceMethod yX5_tellChild, Cond.selects RX5 yX5_tellChild yX5_tellChild, Cond.code yX5_tellChild cX5_tellChild 3 (some .int), Cond.fieldLink RX5 13 "ThursdayRungsModel" "rows" "[I", Cond.methodLink RX5 89 yX5_wouldTeach, Cond.instanceMethod yX5_wouldTeach, Cond.selects RX5 yX5_wouldTeach yX5_wouldTeach, Cond.code yX5_wouldTeach cX5_wouldTeach 3 (some .int), Cond.methodLink RX5 81 yX5_isIll, Cond.instanceMethod yX5_isIll, Cond.selects RX5 yX5_isIll yX5_isIll, Cond.code yX5_isIll cX5_isIll 2 (some .boolean), Cond.methodLink RX5 85 yX5_teachesOf]
def wsX5_digest_r2 : List Cond := [Cond.instanceMethod yX5_teachesOf, Cond.selects RX5 yX5_teachesOf yX5_teachesOf, Cond.code yX5_teachesOf cX5_teachesOf 3 (some .int), Cond.methodLink RX5 77 yX5_teachesBy, Cond.static yX5_teachesBy, Cond.code yX5_teachesBy cX5_teachesBy 4 (some .int), Cond.methodLink RX5 92 yX5_slipsOf, Cond.instanceMethod yX5_slipsOf, Cond.selects RX5 yX5_slipsOf yX5_slipsOf, Cond.code yX5_slipsOf cX5_slipsOf 7 (some .int), Cond.fieldLink RX5 69 "ThursdayRungsModel" "heardMany" "I", Cond.fieldLink RX5 16 "ThursdayRungsModel" "heards" "[I", Cond.methodLink RX5 95 yX5_askOf, Cond.instanceMethod yX5_askOf, Cond.selects RX5 yX5_askOf yX5_askOf, Cond.code yX5_askOf cX5_askOf 9 (some .int), Cond.fieldLink RX5 19 "ThursdayRungsModel" "parts" "[I", Cond.methodLink RX5 185 yX5_say, Cond.instanceMethod yX5_say, Cond.selects RX5 yX5_say yX5_say, Cond.code yX5_say cX5_say 3 none, Cond.constantLong RX5 179 (31), Cond.methodLink RX5 122 yX5_arrivesOf, Cond.instanceMethod yX5_arrivesOf]
def wsX5_digest_r3 : List Cond := [Cond.selects RX5 yX5_arrivesOf yX5_arrivesOf, Cond.code yX5_arrivesOf cX5_arrivesOf 5 (some .int), Cond.methodLink RX5 125 yX5_fromOf, Cond.instanceMethod yX5_fromOf, Cond.selects RX5 yX5_fromOf yX5_fromOf, Cond.code yX5_fromOf cX5_fromOf 5 (some .int), Cond.methodLink RX5 115 yX5_lacks, Cond.instanceMethod yX5_lacks, Cond.selects RX5 yX5_lacks yX5_lacks, Cond.code yX5_lacks cX5_lacks 1 (some .boolean), Cond.methodLink RX5 128 yX5_soonOf, Cond.instanceMethod yX5_soonOf, Cond.selects RX5 yX5_soonOf yX5_soonOf, Cond.code yX5_soonOf cX5_soonOf 2 (some .int), Cond.methodLink RX5 134 yX5_cureOf, Cond.instanceMethod yX5_cureOf, Cond.selects RX5 yX5_cureOf yX5_cureOf, Cond.code yX5_cureOf cX5_cureOf 7 (some .int), Cond.methodLink RX5 131 yX5_asTheyAre, Cond.instanceMethod yX5_asTheyAre, Cond.selects RX5 yX5_asTheyAre yX5_asTheyAre, Cond.code yX5_asTheyAre cX5_asTheyAre 3 (some .int), Cond.methodLink RX5 176 yX5_countOf, Cond.instanceMethod yX5_countOf]
def wsX5_digest_r4 : List Cond := [Cond.selects RX5 yX5_countOf yX5_countOf, Cond.code yX5_countOf cX5_countOf 2 (some .int), Cond.fieldLink RX5 63 "ThursdayRungsModel" "thursdays" "I", Cond.fieldLink RX5 66 "ThursdayRungsModel" "taught" "I", Cond.fieldLink RX5 72 "ThursdayRungsModel" "schoolsRead" "I", Cond.methodLink RX5 167 yX5_knowing, Cond.instanceMethod yX5_knowing, Cond.selects RX5 yX5_knowing yX5_knowing, Cond.code yX5_knowing cX5_knowing 3 (some .int), Cond.methodLink RX5 170 yX5_unlike, Cond.instanceMethod yX5_unlike, Cond.selects RX5 yX5_unlike yX5_unlike, Cond.code yX5_unlike cX5_unlike 5 (some .int), Cond.methodLink RX5 173 yX5_illMany, Cond.instanceMethod yX5_illMany, Cond.selects RX5 yX5_illMany yX5_illMany, Cond.code yX5_illMany cX5_illMany 3 (some .int)]
def wsX5_digest : List Cond := .code yX5_digest cX5_digest 2 (some .long) :: ((wsX5_digest_r1 ++ (wsX5_digest_r2 ++ (wsX5_digest_r3 ++ wsX5_digest_r4))) ++ wsX50)
def wsJ9_max_7cf53 : List Cond := .code yJ9_max_7cf53 cJ9_max_7cf53 2 (some .int) :: ([])
def wsJ9_min_7cf53 : List Cond := .code yJ9_min_7cf53 cJ9_min_7cf53 2 (some .int) :: ([])
def wsL_law_r1 : List Cond := [Cond.classLink RL 7 RX4, Cond.instantiable RX4 6, Cond.initialized RX4, Cond.classLink RL 10 RX5, Cond.instantiable RX5 20, Cond.initialized RX5, Cond.methodLink RL 9 yX4_init, Cond.instanceMethod yX4_init, Cond.code yX4_init cX4_init 1 none, Cond.methodLink RX4 1 objectInit, Cond.instanceMethod objectInit, Cond.code objectInit ⟨#[0xb1]⟩ 1 none, Cond.classLink RX4 7 RX2, Cond.instantiable RX2 2, Cond.initialized RX2, Cond.fieldLink RX4 10 "ThursdayRungs" "page" "LThursdayRungs$Page;", Cond.classLink RX4 16 RX3, Cond.instantiable RX3 11, Cond.initialized RX3, Cond.fieldLink RX4 19 "ThursdayRungs" "school" "LThursdayRungs$School;", Cond.fieldLink RX4 23 "ThursdayRungs" "kept" "LThursdayRungs$School;", Cond.fieldLink RX4 26 "ThursdayRungs" "trial" "LThursdayRungs$School;", Cond.classLink RX4 29 RX0, Cond.instantiable RX0 1]
def wsL_law_r2 : List Cond := [Cond.initialized RX0, Cond.fieldLink RX4 32 "ThursdayRungs" "draws" "LThursdayRungs$Draws;", Cond.fieldLink RX4 36 "ThursdayRungs" "schoolsRead" "I", Cond.instanceMethod yX2_init, Cond.code yX2_init cX2_init 1 none, Cond.methodLink RX2 1 objectInit, Cond.arrayClass .int, Cond.fieldLink RX2 9 "ThursdayRungs$Page" "codes" "[I", Cond.fieldLink RX2 13 "ThursdayRungs$Page" "size" "I", Cond.instanceMethod yX3_init, Cond.code yX3_init cX3_init 1 none, Cond.methodLink RX3 3 objectInit, Cond.fieldLink RX3 11 "ThursdayRungs$School" "kinds" "[I", Cond.fieldLink RX3 15 "ThursdayRungs$School" "slips" "[I", Cond.fieldLink RX3 18 "ThursdayRungs$School" "known" "[I", Cond.arrayClass .boolean, Cond.fieldLink RX3 21 "ThursdayRungs$School" "ill" "[Z", Cond.fieldLink RX3 25 "ThursdayRungs$School" "heardChild" "[I", Cond.fieldLink RX3 28 "ThursdayRungs$School" "heardKnew" "[I", Cond.fieldLink RX3 31 "ThursdayRungs$School" "heardTaught" "[I", Cond.fieldLink RX3 34 "ThursdayRungs$School" "size" "I", Cond.fieldLink RX3 38 "ThursdayRungs$School" "heard" "I", Cond.fieldLink RX3 41 "ThursdayRungs$School" "thursdays" "I", Cond.fieldLink RX3 44 "ThursdayRungs$School" "timesTaught" "I"]
def wsL_law_r3 : List Cond := [Cond.instanceMethod yX0_init, Cond.code yX0_init cX0_init 1 none, Cond.methodLink RX0 1 objectInit, Cond.fieldLink RX0 7 "ThursdayRungs$Draws" "seed" "J", Cond.methodLink RL 12 yX5_init, Cond.instanceMethod yX5_init, Cond.code yX5_init cX5_init 1 none, Cond.methodLink RX5 1 objectInit, Cond.fieldLink RX5 7 "ThursdayRungsModel" "page" "[I", Cond.fieldLink RX5 13 "ThursdayRungsModel" "rows" "[I", Cond.fieldLink RX5 16 "ThursdayRungsModel" "heards" "[I", Cond.fieldLink RX5 19 "ThursdayRungsModel" "parts" "[I", Cond.fieldLink RX5 22 "ThursdayRungsModel" "savedRows" "[I", Cond.fieldLink RX5 25 "ThursdayRungsModel" "keptRows" "[I", Cond.fieldLink RX5 28 "ThursdayRungsModel" "keptHeards" "[I", Cond.fieldLink RX5 31 "ThursdayRungsModel" "keptSchool" "I", Cond.methodLink RL 13 yX4_letter, Cond.instanceMethod yX4_letter, Cond.selects RX4 yX4_letter yX4_letter, Cond.code yX4_letter cX4_letter 2 (some .int), Cond.fieldLink RX4 48 "ThursdayRungs$Page" "size" "I", Cond.methodLink RX4 40 yX2_isFull, Cond.instanceMethod yX2_isFull, Cond.selects RX2 yX2_isFull yX2_isFull]
def wsL_law_r4 : List Cond := [Cond.code yX2_isFull cX2_isFull 1 (some .boolean), Cond.methodLink RX4 44 yX2_add, Cond.instanceMethod yX2_add, Cond.selects RX2 yX2_add yX2_add, Cond.code yX2_add cX2_add 2 none, Cond.methodLink RX2 17 yX2_isFull, Cond.methodLink RL 17 yX5_letter, Cond.instanceMethod yX5_letter, Cond.selects RX5 yX5_letter yX5_letter, Cond.code yX5_letter cX5_letter 2 (some .int), Cond.constantLong RX5 35 (126), Cond.fieldLink RX5 41 "ThursdayRungsModel" "pageMany" "I", Cond.methodLink RX5 37 yX5_in, Cond.static yX5_in, Cond.code yX5_in cX5_in 6 (some .boolean), Cond.methodLink RL 18 yX4_blank, Cond.instanceMethod yX4_blank, Cond.selects RX4 yX4_blank yX4_blank, Cond.code yX4_blank cX4_blank 2 (some .int), Cond.methodLink RL 22 yX5_blank, Cond.instanceMethod yX5_blank, Cond.selects RX5 yX5_blank yX5_blank, Cond.code yX5_blank cX5_blank 2 (some .int), Cond.methodLink RL 23 yX4_fault]
def wsL_law_r5 : List Cond := [Cond.instanceMethod yX4_fault, Cond.selects RX4 yX4_fault yX4_fault, Cond.code yX4_fault cX4_fault 1 (some .int), Cond.methodLink RX4 51 yX2_firstMisfit, Cond.instanceMethod yX2_firstMisfit, Cond.selects RX2 yX2_firstMisfit yX2_firstMisfit, Cond.code yX2_firstMisfit cX2_firstMisfit 2 (some .int), Cond.methodLink RX2 21 yX2_fits, Cond.instanceMethod yX2_fits, Cond.selects RX2 yX2_fits yX2_fits, Cond.code yX2_fits cX2_fits 3 (some .boolean), Cond.methodLink RX2 36 yJ0_indexOf_0f7a4, Cond.instanceMethod yJ0_indexOf_0f7a4, Cond.selects RJ0 yJ0_indexOf_0f7a4 yJ0_indexOf_0f7a4, Cond.initialized RJ0, Cond.code yJ0_indexOf_0f7a4 cJ0_indexOf_0f7a4 2 (some .int), Cond.methodLink RJ0 633 yJ0_indexOf_7cf53, Cond.instanceMethod yJ0_indexOf_7cf53, Cond.selects RJ0 yJ0_indexOf_7cf53 yJ0_indexOf_7cf53, Cond.code yJ0_indexOf_7cf53 cJ0_indexOf_7cf53 3 (some .int), Cond.fieldLink RJ0 9 "java/lang/String" "value" "[B", Cond.methodLink RJ0 492 yJ0_isLatin1_aae02, Cond.instanceMethod yJ0_isLatin1_aae02, Cond.selects RJ0 yJ0_isLatin1_aae02 yJ0_isLatin1_aae02]
def wsL_law_r6 : List Cond := [Cond.code yJ0_isLatin1_aae02 cJ0_isLatin1_aae02 1 (some .boolean), Cond.fieldLink RJ0 38 "java/lang/String" "COMPACT_STRINGS" "Z", Cond.fieldLink RJ0 15 "java/lang/String" "coder" "B", Cond.methodLink RJ0 505 yJ0_length_8abf5, Cond.instanceMethod yJ0_length_8abf5, Cond.selects RJ0 yJ0_length_8abf5 yJ0_length_8abf5, Cond.code yJ0_length_8abf5 cJ0_length_8abf5 1 (some .int), Cond.methodLink RJ0 335 yJ0_coder_7d493, Cond.instanceMethod yJ0_coder_7d493, Cond.selects RJ0 yJ0_coder_7d493 yJ0_coder_7d493, Cond.code yJ0_coder_7d493 cJ0_coder_7d493 1 (some .byte), Cond.methodLink RJ0 637 yJ1_indexOf_4cfef, Cond.static yJ1_indexOf_4cfef, Cond.initialized RJ1, Cond.code yJ1_indexOf_4cfef cJ1_indexOf_4cfef 4 (some .int), Cond.methodLink RJ1 92 Lib.Math.max.name, Cond.static Lib.Math.max.name, Cond.initialized "java/lang/Math", Cond.code Lib.Math.max.name Lib.Math.max.code 2 (some .int), Cond.methodLink RJ1 38 Lib.Math.min.name, Cond.static Lib.Math.min.name, Cond.code Lib.Math.min.name Lib.Math.min.code 2 (some .int), Cond.methodLink RJ1 88 yJ1_canEncode_9a6ad, Cond.static yJ1_canEncode_9a6ad]
def wsL_law_r7 : List Cond := [Cond.code yJ1_canEncode_9a6ad cJ1_canEncode_9a6ad 1 (some .boolean), Cond.methodLink RJ1 95 yJ1_indexOfChar_4cfef, Cond.static yJ1_indexOfChar_4cfef, Cond.code yJ1_indexOfChar_4cfef cJ1_indexOfChar_4cfef 6 (some .int), Cond.methodLink RJ0 640 yJ2_indexOf_4cfef, Cond.static yJ2_indexOf_4cfef, Cond.initialized RJ2, Cond.code yJ2_indexOf_4cfef cJ2_indexOf_4cfef 4 (some .int), Cond.methodLink RJ2 224 Lib.Math.max.name, Cond.methodLink RJ2 183 Lib.Math.min.name, Cond.constant RJ2 227 (65536), Cond.methodLink RJ2 228 yJ2_indexOfChar_4cfef, Cond.static yJ2_indexOfChar_4cfef, Cond.code yJ2_indexOfChar_4cfef cJ2_indexOfChar_4cfef 4 (some .int), Cond.methodLink RJ2 96 yJ2_checkBoundsBeginEnd_d044e, Cond.static yJ2_checkBoundsBeginEnd_d044e, Cond.code yJ2_checkBoundsBeginEnd_d044e cJ2_checkBoundsBeginEnd_d044e 3 none, Cond.methodLink RJ2 48 yJ2_length_9d52b, Cond.static yJ2_length_9d52b, Cond.code yJ2_length_9d52b cJ2_length_9d52b 1 (some .int), Cond.methodLink RJ2 241 yJ0_checkBoundsBeginEnd_23922, Cond.static yJ0_checkBoundsBeginEnd_23922, Cond.code yJ0_checkBoundsBeginEnd_23922 cJ0_checkBoundsBeginEnd_23922 3 none, Cond.fieldLink RJ0 1053 "jdk/internal/util/Preconditions" "SIOOBE_FORMATTER" "Ljava/util/function/BiFunction;"]
def wsL_law_r8 : List Cond := [Cond.methodLink RJ0 1062 yJ3_checkFromToIndex_8c36e, Cond.static yJ3_checkFromToIndex_8c36e, Cond.initialized RJ3, Cond.code yJ3_checkFromToIndex_8c36e cJ3_checkFromToIndex_8c36e 4 (some .int), Cond.methodLink RJ2 244 yJ2_indexOfCharUnsafe_4cfef, Cond.static yJ2_indexOfCharUnsafe_4cfef, Cond.code yJ2_indexOfCharUnsafe_4cfef cJ2_indexOfCharUnsafe_4cfef 5 (some .int), Cond.methodLink RJ2 71 yJ2_getChar_3b067, Cond.static yJ2_getChar_3b067, Cond.code yJ2_getChar_3b067 cJ2_getChar_3b067 2 (some .char), Cond.fieldLink RJ2 44 "java/lang/StringUTF16" "$assertionsDisabled" "Z", Cond.fieldLink RJ2 59 "java/lang/StringUTF16" "HI_BYTE_SHIFT" "I", Cond.fieldLink RJ2 63 "java/lang/StringUTF16" "LO_BYTE_SHIFT" "I", Cond.methodLink RJ2 232 yJ2_indexOfSupplementary_4cfef, Cond.static yJ2_indexOfSupplementary_4cfef, Cond.code yJ2_indexOfSupplementary_4cfef cJ2_indexOfSupplementary_4cfef 7 (some .int), Cond.methodLink RJ2 164 yJ11_isValidCodePoint_9a6ad, Cond.static yJ11_isValidCodePoint_9a6ad, Cond.initialized RJ11, Cond.code yJ11_isValidCodePoint_9a6ad cJ11_isValidCodePoint_9a6ad 2 (some .boolean), Cond.methodLink RJ2 157 yJ11_highSurrogate_5068e, Cond.static yJ11_highSurrogate_5068e, Cond.code yJ11_highSurrogate_5068e cJ11_highSurrogate_5068e 1 (some .char), Cond.constant RJ11 110 (55232)]
def wsL_law_r9 : List Cond := [Cond.methodLink RJ2 161 yJ11_lowSurrogate_5068e, Cond.static yJ11_lowSurrogate_5068e, Cond.code yJ11_lowSurrogate_5068e cJ11_lowSurrogate_5068e 1 (some .char), Cond.constant RJ11 76 (56320), Cond.methodLink RL 26 yX5_fault, Cond.instanceMethod yX5_fault, Cond.selects RX5 yX5_fault yX5_fault, Cond.code yX5_fault cX5_fault 1 (some .int), Cond.methodLink RX5 56 yX5_faultOf, Cond.instanceMethod yX5_faultOf, Cond.selects RX5 yX5_faultOf yX5_faultOf, Cond.code yX5_faultOf cX5_faultOf 2 (some .int), Cond.methodLink RX5 52 yX5_isGood, Cond.static yX5_isGood, Cond.code yX5_isGood cX5_isGood 2 (some .boolean), Cond.constantLong RX5 48 (48), Cond.constantLong RX5 50 (57), Cond.methodLink RX5 44 yX5_kindBy, Cond.static yX5_kindBy, Cond.code yX5_kindBy cX5_kindBy 1 (some .int), Cond.methodLink RL 27 yX4_school, Cond.instanceMethod yX4_school, Cond.selects RX4 yX4_school yX4_school, Cond.code yX4_school cX4_school 1 (some .int)]
def wsL_law_r10 : List Cond := [Cond.fieldLink RX4 62 "ThursdayRungs$School" "size" "I", Cond.methodLink RX4 55 yX2_isSchool, Cond.instanceMethod yX2_isSchool, Cond.selects RX2 yX2_isSchool yX2_isSchool, Cond.code yX2_isSchool cX2_isSchool 1 (some .boolean), Cond.methodLink RX2 25 yX2_children, Cond.instanceMethod yX2_children, Cond.selects RX2 yX2_children yX2_children, Cond.code yX2_children cX2_children 1 (some .int), Cond.methodLink RX2 29 yX2_firstMisfit, Cond.methodLink RX4 58 yX3_readFrom, Cond.instanceMethod yX3_readFrom, Cond.selects RX3 yX3_readFrom yX3_readFrom, Cond.code yX3_readFrom cX3_readFrom 3 none, Cond.methodLink RX3 53 Lib.Math.min.name, Cond.methodLink RX3 47 yX2_children, Cond.methodLink RX3 59 yX2_kindOf, Cond.instanceMethod yX2_kindOf, Cond.selects RX2 yX2_kindOf yX2_kindOf, Cond.code yX2_kindOf cX2_kindOf 2 (some .int), Cond.methodLink RX3 63 yX2_slipOf, Cond.instanceMethod yX2_slipOf, Cond.selects RX2 yX2_slipOf yX2_slipOf, Cond.code yX2_slipOf cX2_slipOf 2 (some .int)]
def wsL_law_r11 : List Cond := [Cond.methodLink RL 30 yX5_school, Cond.instanceMethod yX5_school, Cond.selects RX5 yX5_school yX5_school, Cond.code yX5_school cX5_school 2 (some .int), Cond.fieldLink RX5 60 "ThursdayRungsModel" "children" "I", Cond.fieldLink RX5 63 "ThursdayRungsModel" "thursdays" "I", Cond.fieldLink RX5 66 "ThursdayRungsModel" "taught" "I", Cond.fieldLink RX5 69 "ThursdayRungsModel" "heardMany" "I", Cond.fieldLink RX5 72 "ThursdayRungsModel" "schoolsRead" "I", Cond.methodLink RL 31 yX4_child, Cond.instanceMethod yX4_child, Cond.selects RX4 yX4_child yX4_child, Cond.code yX4_child cX4_child 3 (some .int), Cond.fieldLink RX4 67 "ThursdayRungs$School" "kinds" "[I", Cond.fieldLink RX4 71 "ThursdayRungs$School" "slips" "[I", Cond.fieldLink RX4 74 "ThursdayRungs$School" "known" "[I", Cond.fieldLink RX4 77 "ThursdayRungs$School" "ill" "[Z", Cond.methodLink RX4 63 yX3_has, Cond.instanceMethod yX3_has, Cond.selects RX3 yX3_has yX3_has, Cond.code yX3_has cX3_has 2 (some .boolean), Cond.methodLink RX4 81 yX3_taughtNowBy, Cond.instanceMethod yX3_taughtNowBy, Cond.selects RX3 yX3_taughtNowBy yX3_taughtNowBy]
def wsL_law_r12 : List Cond := [Cond.code yX3_taughtNowBy cX3_taughtNowBy 2 (some .int), Cond.methodLink RX3 72 yX1_passesOn, Cond.static yX1_passesOn, Cond.initialized RX1, Cond.code yX1_passesOn cX1_passesOn 3 (some .int), Cond.methodLink RX4 85 yX3_possibleSlips, Cond.instanceMethod yX3_possibleSlips, Cond.selects RX3 yX3_possibleSlips yX3_possibleSlips, Cond.code yX3_possibleSlips cX3_possibleSlips 4 (some .int), Cond.methodLink RX3 106 yX3_explainsHeard, Cond.instanceMethod yX3_explainsHeard, Cond.selects RX3 yX3_explainsHeard yX3_explainsHeard, Cond.code yX3_explainsHeard cX3_explainsHeard 4 (some .boolean), Cond.methodLink RX4 88 yX3_bestQuestion, Cond.instanceMethod yX3_bestQuestion, Cond.selects RX3 yX3_bestQuestion yX3_bestQuestion, Cond.code yX3_bestQuestion cX3_bestQuestion 7 (some .int), Cond.methodLink RX3 110 yX3_possibleSlips, Cond.methodLink RX3 113 yX3_worstLeft, Cond.static yX3_worstLeft, Cond.code yX3_worstLeft cX3_worstLeft 5 (some .int), Cond.methodLink RX3 120 Lib.Math.max.name, Cond.methodLink RX3 116 yX3_leftBy, Cond.static yX3_leftBy]
def wsL_law_r13 : List Cond := [Cond.code yX3_leftBy cX3_leftBy 6 (some .int), Cond.methodLink RL 35 yX5_child, Cond.instanceMethod yX5_child, Cond.selects RX5 yX5_child yX5_child, Cond.code yX5_child cX5_child 3 (some .int), Cond.methodLink RX5 98 yX5_isChild, Cond.instanceMethod yX5_isChild, Cond.selects RX5 yX5_isChild yX5_isChild, Cond.code yX5_isChild cX5_isChild 2 (some .boolean), Cond.methodLink RX5 101 yX5_tellChild, Cond.instanceMethod yX5_tellChild, Cond.selects RX5 yX5_tellChild yX5_tellChild, Cond.code yX5_tellChild cX5_tellChild 3 (some .int), Cond.methodLink RX5 89 yX5_wouldTeach, Cond.instanceMethod yX5_wouldTeach, Cond.selects RX5 yX5_wouldTeach yX5_wouldTeach, Cond.code yX5_wouldTeach cX5_wouldTeach 3 (some .int), Cond.methodLink RX5 81 yX5_isIll, Cond.instanceMethod yX5_isIll, Cond.selects RX5 yX5_isIll yX5_isIll, Cond.code yX5_isIll cX5_isIll 2 (some .boolean), Cond.methodLink RX5 85 yX5_teachesOf, Cond.instanceMethod yX5_teachesOf, Cond.selects RX5 yX5_teachesOf yX5_teachesOf]
def wsL_law_r14 : List Cond := [Cond.code yX5_teachesOf cX5_teachesOf 3 (some .int), Cond.methodLink RX5 77 yX5_teachesBy, Cond.static yX5_teachesBy, Cond.code yX5_teachesBy cX5_teachesBy 4 (some .int), Cond.methodLink RX5 92 yX5_slipsOf, Cond.instanceMethod yX5_slipsOf, Cond.selects RX5 yX5_slipsOf yX5_slipsOf, Cond.code yX5_slipsOf cX5_slipsOf 7 (some .int), Cond.methodLink RX5 95 yX5_askOf, Cond.instanceMethod yX5_askOf, Cond.selects RX5 yX5_askOf yX5_askOf, Cond.code yX5_askOf cX5_askOf 9 (some .int), Cond.methodLink RL 36 yX4_as, Cond.instanceMethod yX4_as, Cond.selects RX4 yX4_as yX4_as, Cond.code yX4_as cX4_as 3 (some .int), Cond.methodLink RX4 91 yX1_isA, Cond.static yX1_isA, Cond.code yX1_isA cX1_isA 2 (some .boolean), Cond.methodLink RL 39 yX5_as, Cond.instanceMethod yX5_as, Cond.selects RX5 yX5_as yX5_as, Cond.code yX5_as cX5_as 5 (some .int), Cond.constantLong RX5 104 (4)]
def wsL_law_r15 : List Cond := [Cond.methodLink RL 40 yX4_teaches, Cond.instanceMethod yX4_teaches, Cond.selects RX4 yX4_teaches yX4_teaches, Cond.code yX4_teaches cX4_teaches 4 (some .int), Cond.methodLink RX4 97 yX4_refusalOf, Cond.instanceMethod yX4_refusalOf, Cond.selects RX4 yX4_refusalOf yX4_refusalOf, Cond.code yX4_refusalOf cX4_refusalOf 3 (some .int), Cond.methodLink RX4 126 yX4_isRule, Cond.static yX4_isRule, Cond.code yX4_isRule cX4_isRule 1 (some .boolean), Cond.methodLink RX4 101 yX1_passesOn, Cond.methodLink RL 43 yX5_teaches, Cond.instanceMethod yX5_teaches, Cond.selects RX5 yX5_teaches yX5_teaches, Cond.code yX5_teaches cX5_teaches 3 (some .int), Cond.methodLink RX5 106 yX5_isRule, Cond.static yX5_isRule, Cond.code yX5_isRule cX5_isRule 1 (some .boolean), Cond.constantLong RX5 75 (11), Cond.methodLink RL 44 yX4_tell, Cond.instanceMethod yX4_tell, Cond.selects RX4 yX4_tell yX4_tell, Cond.code yX4_tell cX4_tell 5 (some .int)]
def wsL_law_r16 : List Cond := [Cond.methodLink RL 47 yX5_tell, Cond.instanceMethod yX5_tell, Cond.selects RX5 yX5_tell yX5_tell, Cond.code yX5_tell cX5_tell 4 (some .int), Cond.methodLink RL 48 yX4_ill, Cond.instanceMethod yX4_ill, Cond.selects RX4 yX4_ill yX4_ill, Cond.code yX4_ill cX4_ill 4 (some .int), Cond.methodLink RL 52 yX5_ill, Cond.instanceMethod yX5_ill, Cond.selects RX5 yX5_ill yX5_ill, Cond.code yX5_ill cX5_ill 4 (some .int), Cond.methodLink RL 53 yX4_slip, Cond.instanceMethod yX4_slip, Cond.selects RX4 yX4_slip yX4_slip, Cond.code yX4_slip cX4_slip 4 (some .int), Cond.methodLink RL 56 yX5_slip, Cond.instanceMethod yX5_slip, Cond.selects RX5 yX5_slip yX5_slip, Cond.code yX5_slip cX5_slip 4 (some .int), Cond.constantLong RX5 109 (9), Cond.methodLink RL 57 yX4_thursday, Cond.instanceMethod yX4_thursday, Cond.selects RX4 yX4_thursday yX4_thursday]
def wsL_law_r17 : List Cond := [Cond.code yX4_thursday cX4_thursday 1 (some .int), Cond.methodLink RX4 105 yX3_isNone, Cond.instanceMethod yX3_isNone, Cond.selects RX3 yX3_isNone yX3_isNone, Cond.code yX3_isNone cX3_isNone 1 (some .boolean), Cond.methodLink RX4 108 yX3_holdThursday, Cond.instanceMethod yX3_holdThursday, Cond.selects RX3 yX3_holdThursday yX3_holdThursday, Cond.code yX3_holdThursday cX3_holdThursday 3 (some .int), Cond.methodLink RX3 81 yX3_top, Cond.instanceMethod yX3_top, Cond.selects RX3 yX3_top yX3_top, Cond.code yX3_top cX3_top 1 (some .int), Cond.methodLink RX3 84 yX3_isTaughtNext, Cond.instanceMethod yX3_isTaughtNext, Cond.selects RX3 yX3_isTaughtNext yX3_isTaughtNext, Cond.code yX3_isTaughtNext cX3_isTaughtNext 2 (some .boolean), Cond.methodLink RX3 78 yX3_taughtNowBy, Cond.methodLink RL 60 yX5_thursday, Cond.instanceMethod yX5_thursday, Cond.selects RX5 yX5_thursday yX5_thursday, Cond.code yX5_thursday cX5_thursday 2 (some .int), Cond.methodLink RX5 115 yX5_lacks, Cond.instanceMethod yX5_lacks]
def wsL_law_r18 : List Cond := [Cond.selects RX5 yX5_lacks yX5_lacks, Cond.code yX5_lacks cX5_lacks 1 (some .boolean), Cond.methodLink RX5 119 yX5_goesUp, Cond.instanceMethod yX5_goesUp, Cond.selects RX5 yX5_goesUp yX5_goesUp, Cond.code yX5_goesUp cX5_goesUp 4 (some .int), Cond.fieldLink RX5 111 "ThursdayRungsModel" "topTaught" "Z", Cond.methodLink RL 61 yX4_arrives, Cond.instanceMethod yX4_arrives, Cond.selects RX4 yX4_arrives yX4_arrives, Cond.code yX4_arrives cX4_arrives 4 (some .int), Cond.methodLink RX4 111 yX3_atTop, Cond.instanceMethod yX3_atTop, Cond.selects RX3 yX3_atTop yX3_atTop, Cond.code yX3_atTop cX3_atTop 6 (some .int), Cond.methodLink RL 64 yX5_arrives, Cond.instanceMethod yX5_arrives, Cond.selects RX5 yX5_arrives yX5_arrives, Cond.code yX5_arrives cX5_arrives 3 (some .int), Cond.methodLink RX5 122 yX5_arrivesOf, Cond.instanceMethod yX5_arrivesOf, Cond.selects RX5 yX5_arrivesOf yX5_arrivesOf, Cond.code yX5_arrivesOf cX5_arrivesOf 5 (some .int), Cond.methodLink RL 65 yX4_from]
def wsL_law_r19 : List Cond := [Cond.instanceMethod yX4_from, Cond.selects RX4 yX4_from yX4_from, Cond.code yX4_from cX4_from 4 (some .int), Cond.methodLink RX4 114 yX3_sourcesOf, Cond.instanceMethod yX3_sourcesOf, Cond.selects RX3 yX3_sourcesOf yX3_sourcesOf, Cond.code yX3_sourcesOf cX3_sourcesOf 5 (some .int), Cond.methodLink RX3 93 yX3_atTop, Cond.methodLink RL 68 yX5_from, Cond.instanceMethod yX5_from, Cond.selects RX5 yX5_from yX5_from, Cond.code yX5_from cX5_from 3 (some .int), Cond.methodLink RX5 125 yX5_fromOf, Cond.instanceMethod yX5_fromOf, Cond.selects RX5 yX5_fromOf yX5_fromOf, Cond.code yX5_fromOf cX5_fromOf 5 (some .int), Cond.methodLink RL 69 yX4_soon, Cond.instanceMethod yX4_soon, Cond.selects RX4 yX4_soon yX4_soon, Cond.code yX4_soon cX4_soon 1 (some .int), Cond.methodLink RX4 117 yX3_thursdaysToTop, Cond.instanceMethod yX3_thursdaysToTop, Cond.selects RX3 yX3_thursdaysToTop yX3_thursdaysToTop, Cond.code yX3_thursdaysToTop cX3_thursdaysToTop 2 (some .int)]
def wsL_law_r20 : List Cond := [Cond.methodLink RX3 99 yX3_isNone, Cond.methodLink RL 72 yX5_soon, Cond.instanceMethod yX5_soon, Cond.selects RX5 yX5_soon yX5_soon, Cond.code yX5_soon cX5_soon 1 (some .int), Cond.methodLink RX5 128 yX5_soonOf, Cond.instanceMethod yX5_soonOf, Cond.selects RX5 yX5_soonOf yX5_soonOf, Cond.code yX5_soonOf cX5_soonOf 2 (some .int), Cond.methodLink RL 73 yX4_cure, Cond.instanceMethod yX4_cure, Cond.selects RX4 yX4_cure yX4_cure, Cond.code yX4_cure cX4_cure 3 (some .int), Cond.methodLink RX4 120 yX3_bestToCure, Cond.instanceMethod yX3_bestToCure, Cond.selects RX3 yX3_bestToCure yX3_bestToCure, Cond.code yX3_bestToCure cX3_bestToCure 5 (some .int), Cond.methodLink RX3 96 yX3_unchangedAtTop, Cond.instanceMethod yX3_unchangedAtTop, Cond.selects RX3 yX3_unchangedAtTop yX3_unchangedAtTop, Cond.code yX3_unchangedAtTop cX3_unchangedAtTop 4 (some .int), Cond.methodLink RX4 123 yX3_unchangedAtTop, Cond.methodLink RL 76 yX5_cure, Cond.instanceMethod yX5_cure]
def wsL_law_r21 : List Cond := [Cond.selects RX5 yX5_cure yX5_cure, Cond.code yX5_cure cX5_cure 2 (some .int), Cond.methodLink RX5 134 yX5_cureOf, Cond.instanceMethod yX5_cureOf, Cond.selects RX5 yX5_cureOf yX5_cureOf, Cond.code yX5_cureOf cX5_cureOf 7 (some .int), Cond.methodLink RX5 131 yX5_asTheyAre, Cond.instanceMethod yX5_asTheyAre, Cond.selects RX5 yX5_asTheyAre yX5_asTheyAre, Cond.code yX5_asTheyAre cX5_asTheyAre 3 (some .int), Cond.methodLink RL 77 yX4_hear, Cond.instanceMethod yX4_hear, Cond.selects RX4 yX4_hear yX4_hear, Cond.code yX4_hear cX4_hear 5 (some .int), Cond.fieldLink RX4 136 "ThursdayRungs$School" "heard" "I", Cond.methodLink RX4 129 yX3_isHeardFull, Cond.instanceMethod yX3_isHeardFull, Cond.selects RX3 yX3_isHeardFull yX3_isHeardFull, Cond.code yX3_isHeardFull cX3_isHeardFull 1 (some .boolean), Cond.methodLink RX4 132 yX3_addHeard, Cond.instanceMethod yX3_addHeard, Cond.selects RX3 yX3_addHeard yX3_addHeard, Cond.code yX3_addHeard cX3_addHeard 4 none, Cond.methodLink RX3 103 yX3_isHeardFull]
def wsL_law_r22 : List Cond := [Cond.methodLink RL 81 yX5_hear, Cond.instanceMethod yX5_hear, Cond.selects RX5 yX5_hear yX5_hear, Cond.code yX5_hear cX5_hear 4 (some .int), Cond.methodLink RL 82 yX4_forget, Cond.instanceMethod yX4_forget, Cond.selects RX4 yX4_forget yX4_forget, Cond.code yX4_forget cX4_forget 2 (some .int), Cond.methodLink RL 85 yX5_forget, Cond.instanceMethod yX5_forget, Cond.selects RX5 yX5_forget yX5_forget, Cond.code yX5_forget cX5_forget 2 (some .int), Cond.methodLink RL 86 yX4_terms, Cond.instanceMethod yX4_terms, Cond.selects RX4 yX4_terms yX4_terms, Cond.code yX4_terms cX4_terms 6 (some .int), Cond.fieldLink RX4 143 "ThursdayRungs$Draws" "seed" "J", Cond.methodLink RX4 139 yX3_copyFrom, Cond.instanceMethod yX3_copyFrom, Cond.selects RX3 yX3_copyFrom yX3_copyFrom, Cond.code yX3_copyFrom cX3_copyFrom 2 none, Cond.methodLink RX3 66 arraycopyName, Cond.native arraycopyName, Cond.static arraycopyName]
def wsL_law_r23 : List Cond := [Cond.initialized "java/lang/System", Cond.methodLink RX4 147 yX3_beginAnew, Cond.instanceMethod yX3_beginAnew, Cond.selects RX3 yX3_beginAnew yX3_beginAnew, Cond.code yX3_beginAnew cX3_beginAnew 4 none, Cond.methodLink RX3 88 yX0_next, Cond.instanceMethod yX0_next, Cond.selects RX0 yX0_next yX0_next, Cond.code yX0_next cX0_next 2 (some .int), Cond.constantLong RX0 13 (1103515245), Cond.constantLong RX0 15 (12345), Cond.constantLong RX0 17 (2147483648), Cond.constantLong RX0 19 (65536), Cond.methodLink RX4 151 yX3_top, Cond.methodLink RX4 154 yX3_isTaughtNext, Cond.methodLink RL 89 yX5_terms, Cond.instanceMethod yX5_terms, Cond.selects RX5 yX5_terms yX5_terms, Cond.code yX5_terms cX5_terms 8 (some .int), Cond.constantLong RX5 147 (60), Cond.constantLong RX5 149 (2), Cond.fieldLink RX5 139 "ThursdayRungsModel" "seedNow" "I", Cond.methodLink RX5 151 yX5_copy, Cond.static yX5_copy]
def wsL_law_r24 : List Cond := [Cond.code yX5_copy cX5_copy 3 none, Cond.methodLink RX5 155 yX5_draw, Cond.instanceMethod yX5_draw, Cond.selects RX5 yX5_draw yX5_draw, Cond.code yX5_draw cX5_draw 2 (some .int), Cond.constantLong RX5 137 (1103515245), Cond.constantLong RX5 142 (12345), Cond.constantLong RX5 144 (2147483647), Cond.constant RX5 146 (65536), Cond.methodLink RL 90 yX4_image, Cond.instanceMethod yX4_image, Cond.selects RX4 yX4_image yX4_image, Cond.code yX4_image cX4_image 1 (some .int), Cond.fieldLink RX4 157 "ThursdayRungs$School" "thursdays" "I", Cond.methodLink RL 93 yX5_image, Cond.instanceMethod yX5_image, Cond.selects RX5 yX5_image yX5_image, Cond.code yX5_image cX5_image 1 (some .int), Cond.fieldLink RX5 158 "ThursdayRungsModel" "keptThursdays" "I", Cond.fieldLink RX5 161 "ThursdayRungsModel" "keptTaught" "I", Cond.fieldLink RX5 164 "ThursdayRungsModel" "keptHeard" "I", Cond.methodLink RL 94 yX4_restore, Cond.instanceMethod yX4_restore, Cond.selects RX4 yX4_restore yX4_restore]
def wsL_law_r25 : List Cond := [Cond.code yX4_restore cX4_restore 1 (some .int), Cond.methodLink RL 97 yX5_restore, Cond.instanceMethod yX5_restore, Cond.selects RX5 yX5_restore yX5_restore, Cond.code yX5_restore cX5_restore 1 (some .int), Cond.methodLink RL 98 yX4_count, Cond.instanceMethod yX4_count, Cond.selects RX4 yX4_count yX4_count, Cond.code yX4_count cX4_count 2 (some .int), Cond.fieldLink RX4 169 "ThursdayRungs$School" "timesTaught" "I", Cond.methodLink RX4 160 yX3_knowing, Cond.instanceMethod yX3_knowing, Cond.selects RX3 yX3_knowing yX3_knowing, Cond.code yX3_knowing cX3_knowing 3 (some .int), Cond.methodLink RX4 163 yX3_unlikeRules, Cond.instanceMethod yX3_unlikeRules, Cond.selects RX3 yX3_unlikeRules yX3_unlikeRules, Cond.code yX3_unlikeRules cX3_unlikeRules 3 (some .int), Cond.methodLink RX3 123 yJ6_bitCount_0f7a4, Cond.static yJ6_bitCount_0f7a4, Cond.initialized RJ6, Cond.code yJ6_bitCount_0f7a4 cJ6_bitCount_0f7a4 1 (some .int), Cond.constant RJ6 265 (1431655765), Cond.constant RJ6 266 (858993459)]
def wsL_law_r26 : List Cond := [Cond.constant RJ6 267 (252645135), Cond.methodLink RX4 166 yX3_illOnes, Cond.instanceMethod yX3_illOnes, Cond.selects RX3 yX3_illOnes yX3_illOnes, Cond.code yX3_illOnes cX3_illOnes 3 (some .int), Cond.methodLink RL 101 yX5_count, Cond.instanceMethod yX5_count, Cond.selects RX5 yX5_count yX5_count, Cond.code yX5_count cX5_count 2 (some .int), Cond.methodLink RX5 176 yX5_countOf, Cond.instanceMethod yX5_countOf, Cond.selects RX5 yX5_countOf yX5_countOf, Cond.code yX5_countOf cX5_countOf 2 (some .int), Cond.methodLink RX5 167 yX5_knowing, Cond.instanceMethod yX5_knowing, Cond.selects RX5 yX5_knowing yX5_knowing, Cond.code yX5_knowing cX5_knowing 3 (some .int), Cond.methodLink RX5 170 yX5_unlike, Cond.instanceMethod yX5_unlike, Cond.selects RX5 yX5_unlike yX5_unlike, Cond.code yX5_unlike cX5_unlike 5 (some .int), Cond.methodLink RX5 173 yX5_illMany, Cond.instanceMethod yX5_illMany, Cond.selects RX5 yX5_illMany yX5_illMany]
def wsL_law_r27 : List Cond := [Cond.code yX5_illMany cX5_illMany 3 (some .int), Cond.methodLink RL 102 yX4_digest, Cond.instanceMethod yX4_digest, Cond.selects RX4 yX4_digest yX4_digest, Cond.code yX4_digest cX4_digest 4 (some .long), Cond.constantLong RX4 172 (1039), Cond.fieldLink RX4 188 "ThursdayRungs$Page" "codes" "[I", Cond.methodLink RX4 174 yX4_withChild, Cond.instanceMethod yX4_withChild, Cond.selects RX4 yX4_withChild yX4_withChild, Cond.code yX4_withChild cX4_withChild 7 (some .long), Cond.methodLink RX4 194 yX4_child, Cond.methodLink RX4 181 yX4_with, Cond.static yX4_with, Cond.code yX4_with cX4_with 4 (some .long), Cond.constantLong RX4 203 (31), Cond.methodLink RX4 197 yX4_arrives, Cond.methodLink RX4 200 yX4_from, Cond.methodLink RX4 178 yX4_soon, Cond.methodLink RX4 185 yX4_cure, Cond.methodLink RX4 191 yX4_count, Cond.methodLink RL 106 yX5_digest, Cond.instanceMethod yX5_digest, Cond.selects RX5 yX5_digest yX5_digest]
def wsL_law_r28 : List Cond := [Cond.code yX5_digest cX5_digest 2 (some .long), Cond.constantLong RX5 189 (1039), Cond.fieldLink RX5 181 "ThursdayRungsModel" "hash" "J", Cond.methodLink RX5 191 yX5_sayChild, Cond.instanceMethod yX5_sayChild, Cond.selects RX5 yX5_sayChild yX5_sayChild, Cond.code yX5_sayChild cX5_sayChild 3 none, Cond.methodLink RX5 185 yX5_say, Cond.instanceMethod yX5_say, Cond.selects RX5 yX5_say yX5_say, Cond.code yX5_say cX5_say 3 none, Cond.constantLong RX5 179 (31)]
def wsL_law : List Cond := (wsL_law_r1 ++ (wsL_law_r2 ++ (wsL_law_r3 ++ (wsL_law_r4 ++ (wsL_law_r5 ++ (wsL_law_r6 ++ (wsL_law_r7 ++ (wsL_law_r8 ++ (wsL_law_r9 ++ (wsL_law_r10 ++ (wsL_law_r11 ++ (wsL_law_r12 ++ (wsL_law_r13 ++ (wsL_law_r14 ++ (wsL_law_r15 ++ (wsL_law_r16 ++ (wsL_law_r17 ++ (wsL_law_r18 ++ (wsL_law_r19 ++ (wsL_law_r20 ++ (wsL_law_r21 ++ (wsL_law_r22 ++ (wsL_law_r23 ++ (wsL_law_r24 ++ (wsL_law_r25 ++ (wsL_law_r26 ++ (wsL_law_r27 ++ wsL_law_r28))))))))))))))))))))))))))) ++ wsX40 ++ wsX50 ++ wsX20 ++ wsX30 ++ wsX00 ++ ([] : List Cond)
end
section
set_option maxRecDepth 20000 in
theorem il_r1 : GoodIn lw_tbl wsL_law_r1 := goodIn_r _ [41, 42, 27, 505, 506, 31, 43, 44, 45, 46, 47, 48, 49, 50, 28, 125, 65, 66, 29, 126, 127, 128, 114, 115] (by decide +kernel) (by decide +kernel)
set_option maxRecDepth 20000 in
theorem il_r2 : GoodIn lw_tbl wsL_law_r2 := goodIn_r _ [30, 129, 130, 52, 53, 54, 64, 55, 57, 68, 69, 70, 71, 73, 75, 113, 77, 79, 80, 81, 82, 84, 86, 88] (by decide +kernel) (by decide +kernel)
set_option maxRecDepth 20000 in
theorem il_r3 : GoodIn lw_tbl wsL_law_r3 := goodIn_r _ [117, 118, 119, 120, 507, 508, 509, 510, 511, 517, 520, 521, 523, 528, 529, 524, 144, 145, 146, 147, 58, 148, 149, 150] (by decide +kernel) (by decide +kernel)
set_option maxRecDepth 20000 in
theorem il_r4 : GoodIn lw_tbl wsL_law_r4 := goodIn_r _ [151, 152, 153, 154, 155, 156, 572, 573, 574, 575, 576, 512, 577, 578, 579, 157, 158, 159, 160, 580, 581, 582, 583, 161] (by decide +kernel) (by decide +kernel)
set_option maxRecDepth 20000 in
theorem il_r5 : GoodIn lw_tbl wsL_law_r5 := goodIn_r _ [162, 163, 164, 165, 166, 167, 168, 169, 171, 0, 172, 174, 175, 176, 32, 177, 178, 179, 180, 181, 781, 182, 183, 184] (by decide +kernel) (by decide +kernel)
set_option maxRecDepth 20000 in
theorem il_r6 : GoodIn lw_tbl wsL_law_r6 := goodIn_r _ [185, 186, 780, 188, 189, 190, 191, 192, 193, 194, 195, 196, 197, 33, 198, 202, 203, 34, 204, 205, 206, 207, 199, 200] (by decide +kernel) (by decide +kernel)
set_option maxRecDepth 20000 in
theorem il_r7 : GoodIn lw_tbl wsL_law_r7 := goodIn_r _ [201, 208, 209, 210, 211, 212, 35, 213, 214, 215, 216, 217, 218, 219, 220, 221, 222, 223, 224, 225, 226, 227, 228, 229] (by decide +kernel) (by decide +kernel)
set_option maxRecDepth 20000 in
theorem il_r8 : GoodIn lw_tbl wsL_law_r8 := goodIn_r _ [231, 232, 36, 233, 234, 235, 236, 237, 238, 239, 240, 242, 244, 246, 247, 248, 249, 250, 37, 251, 252, 253, 254, 255] (by decide +kernel) (by decide +kernel)
set_option maxRecDepth 20000 in
theorem il_r9 : GoodIn lw_tbl wsL_law_r9 := goodIn_r _ [256, 257, 258, 259, 584, 585, 586, 587, 588, 590, 4, 591, 592, 593, 594, 598, 599, 595, 596, 597, 261, 262, 263, 264] (by decide +kernel) (by decide +kernel)
set_option maxRecDepth 20000 in
theorem il_r10 : GoodIn lw_tbl wsL_law_r10 := goodIn_r _ [83, 265, 266, 267, 268, 269, 270, 271, 272, 273, 274, 275, 276, 277, 279, 278, 280, 281, 282, 283, 284, 285, 286, 287] (by decide +kernel) (by decide +kernel)
set_option maxRecDepth 20000 in
theorem il_r11 : GoodIn lw_tbl wsL_law_r11 := goodIn_r _ [600, 601, 602, 603, 513, 514, 515, 519, 516, 288, 289, 290, 291, 72, 74, 76, 78, 292, 293, 294, 295, 296, 297, 298] (by decide +kernel) (by decide +kernel)
set_option maxRecDepth 20000 in
theorem il_r12 : GoodIn lw_tbl wsL_law_r12 := goodIn_r _ [299, 300, 301, 38, 302, 303, 304, 305, 306, 307, 309, 1, 310, 311, 312, 313, 314, 315, 316, 317, 318, 322, 319, 320] (by decide +kernel) (by decide +kernel)
set_option maxRecDepth 20000 in
theorem il_r13 : GoodIn lw_tbl wsL_law_r13 := goodIn_r _ [321, 604, 605, 606, 607, 608, 610, 5, 611, 612, 614, 6, 615, 616, 618, 7, 619, 620, 622, 8, 623, 624, 626, 9] (by decide +kernel) (by decide +kernel)
set_option maxRecDepth 20000 in
theorem il_r14 : GoodIn lw_tbl wsL_law_r14 := goodIn_r _ [627, 628, 629, 630, 631, 633, 10, 634, 635, 637, 11, 638, 323, 324, 325, 326, 327, 328, 329, 639, 640, 641, 642, 643] (by decide +kernel) (by decide +kernel)
set_option maxRecDepth 20000 in
theorem il_r15 : GoodIn lw_tbl wsL_law_r15 := goodIn_r _ [330, 331, 332, 333, 334, 336, 2, 337, 338, 339, 340, 341, 644, 645, 646, 647, 648, 649, 650, 651, 342, 343, 344, 345] (by decide +kernel) (by decide +kernel)
set_option maxRecDepth 20000 in
theorem il_r16 : GoodIn lw_tbl wsL_law_r16 := goodIn_r _ [652, 653, 654, 655, 346, 347, 348, 349, 656, 657, 658, 659, 350, 351, 352, 353, 660, 661, 662, 663, 664, 354, 355, 356] (by decide +kernel) (by decide +kernel)
set_option maxRecDepth 20000 in
theorem il_r17 : GoodIn lw_tbl wsL_law_r17 := goodIn_r _ [357, 358, 359, 360, 361, 362, 363, 364, 365, 366, 367, 368, 369, 370, 371, 372, 373, 374, 665, 666, 667, 668, 669, 671] (by decide +kernel) (by decide +kernel)
set_option maxRecDepth 20000 in
theorem il_r18 : GoodIn lw_tbl wsL_law_r18 := goodIn_r _ [12, 672, 673, 675, 13, 676, 518, 375, 376, 377, 378, 379, 380, 381, 382, 677, 678, 679, 680, 681, 683, 14, 684, 383] (by decide +kernel) (by decide +kernel)
set_option maxRecDepth 20000 in
theorem il_r19 : GoodIn lw_tbl wsL_law_r19 := goodIn_r _ [384, 385, 386, 387, 388, 389, 390, 391, 685, 686, 687, 688, 689, 691, 15, 692, 392, 393, 394, 395, 396, 397, 398, 399] (by decide +kernel) (by decide +kernel)
set_option maxRecDepth 20000 in
theorem il_r20 : GoodIn lw_tbl wsL_law_r20 := goodIn_r _ [400, 693, 694, 695, 696, 697, 699, 16, 700, 401, 402, 403, 404, 405, 406, 407, 408, 409, 410, 411, 412, 413, 701, 702] (by decide +kernel) (by decide +kernel)
set_option maxRecDepth 20000 in
theorem il_r21 : GoodIn lw_tbl wsL_law_r21 := goodIn_r _ [703, 704, 705, 707, 17, 708, 709, 711, 18, 712, 414, 415, 416, 417, 85, 418, 419, 420, 421, 422, 423, 424, 425, 426] (by decide +kernel) (by decide +kernel)
set_option maxRecDepth 20000 in
theorem il_r22 : GoodIn lw_tbl wsL_law_r22 := goodIn_r _ [713, 714, 715, 716, 427, 428, 429, 430, 717, 718, 719, 720, 431, 432, 433, 434, 121, 435, 436, 437, 438, 439, 441, 440] (by decide +kernel) (by decide +kernel)
set_option maxRecDepth 20000 in
theorem il_r23 : GoodIn lw_tbl wsL_law_r23 := goodIn_r _ [39, 442, 443, 444, 445, 446, 447, 448, 449, 450, 451, 452, 453, 454, 455, 721, 722, 723, 724, 725, 726, 522, 727, 728] (by decide +kernel) (by decide +kernel)
set_option maxRecDepth 20000 in
theorem il_r24 : GoodIn lw_tbl wsL_law_r24 := goodIn_r _ [729, 730, 732, 19, 733, 734, 735, 736, 737, 456, 457, 458, 459, 87, 738, 739, 740, 741, 525, 526, 527, 460, 461, 462] (by decide +kernel) (by decide +kernel)
set_option maxRecDepth 20000 in
theorem il_r25 : GoodIn lw_tbl wsL_law_r25 := goodIn_r _ [463, 742, 743, 744, 745, 464, 465, 466, 467, 89, 468, 469, 470, 471, 472, 473, 474, 475, 476, 477, 40, 478, 479, 480] (by decide +kernel) (by decide +kernel)
set_option maxRecDepth 20000 in
theorem il_r26 : GoodIn lw_tbl wsL_law_r26 := goodIn_r _ [481, 482, 483, 484, 485, 746, 747, 748, 749, 750, 752, 20, 753, 754, 756, 21, 757, 758, 760, 22, 761, 762, 764, 23] (by decide +kernel) (by decide +kernel)
set_option maxRecDepth 20000 in
theorem il_r27 : GoodIn lw_tbl wsL_law_r27 := goodIn_r _ [765, 486, 487, 488, 489, 490, 56, 491, 493, 3, 494, 495, 496, 497, 498, 499, 500, 501, 502, 503, 504, 766, 767, 768] (by decide +kernel) (by decide +kernel)
set_option maxRecDepth 20000 in
theorem il_r28 : GoodIn lw_tbl wsL_law_r28 := goodIn_r _ [769, 770, 530, 771, 773, 24, 774, 775, 777, 25, 778, 779] (by decide +kernel) (by decide +kernel)
set_option maxRecDepth 20000 in
theorem il_u4 : GoodIn lw_tbl wsX40 := goodIn_r _ [131, 133, 135, 137, 139, 141] (by decide +kernel) (by decide +kernel)
set_option maxRecDepth 20000 in
theorem il_u5 : GoodIn lw_tbl wsX50 := goodIn_r _ [531, 533, 535, 537, 539, 541, 543, 545, 547, 549, 551, 553, 555, 557, 559, 561, 563, 565, 567, 569] (by decide +kernel) (by decide +kernel)
set_option maxRecDepth 20000 in
theorem il_u2 : GoodIn lw_tbl wsX20 := goodIn_r _ [59, 61] (by decide +kernel) (by decide +kernel)
set_option maxRecDepth 20000 in
theorem il_u3 : GoodIn lw_tbl wsX30 := goodIn_r _ [90, 92, 94, 96, 98, 100, 102, 104, 106, 108, 110] (by decide +kernel) (by decide +kernel)
set_option maxRecDepth 20000 in
theorem il_u0 : GoodIn lw_tbl wsX00 := goodIn_r _ [122] (by decide +kernel) (by decide +kernel)
theorem il_law : GoodIn lw_tbl wsL_law := goodIn_app (goodIn_app (goodIn_app (goodIn_app (goodIn_app (goodIn_app (goodIn_app il_r1 (goodIn_app il_r2 (goodIn_app il_r3 (goodIn_app il_r4 (goodIn_app il_r5 (goodIn_app il_r6 (goodIn_app il_r7 (goodIn_app il_r8 (goodIn_app il_r9 (goodIn_app il_r10 (goodIn_app il_r11 (goodIn_app il_r12 (goodIn_app il_r13 (goodIn_app il_r14 (goodIn_app il_r15 (goodIn_app il_r16 (goodIn_app il_r17 (goodIn_app il_r18 (goodIn_app il_r19 (goodIn_app il_r20 (goodIn_app il_r21 (goodIn_app il_r22 (goodIn_app il_r23 (goodIn_app il_r24 (goodIn_app il_r25 (goodIn_app il_r26 (goodIn_app il_r27 il_r28))))))))))))))))))))))))))) il_u4) il_u5) il_u2) il_u3) il_u0) (fun w h => absurd h List.not_mem_nil)
theorem wsL_law_in : ∀ w ∈ wsL_law, w ∈ lw_tbl := fun w h => (il_law w h).1
end
section
theorem inlX0 : ∀ w ∈ wsX00, w ∈ wsL_law := fun _ h => List.mem_append_left _ (List.mem_append_right _ h)
theorem inX0 : ∀ w ∈ wsX00, w ∈ lw_tbl := fun w h => wsL_law_in w (inlX0 w h)
theorem inX1 : ∀ w ∈ wsX10, w ∈ lw_tbl := by decide +kernel
theorem inlX2 : ∀ w ∈ wsX20, w ∈ wsL_law := fun _ h => List.mem_append_left _ (List.mem_append_left _ (List.mem_append_left _ (List.mem_append_right _ h)))
theorem inX2 : ∀ w ∈ wsX20, w ∈ lw_tbl := fun w h => wsL_law_in w (inlX2 w h)
theorem inlX3 : ∀ w ∈ wsX30, w ∈ wsL_law := fun _ h => List.mem_append_left _ (List.mem_append_left _ (List.mem_append_right _ h))
theorem inX3 : ∀ w ∈ wsX30, w ∈ lw_tbl := fun w h => wsL_law_in w (inlX3 w h)
theorem inlX4 : ∀ w ∈ wsX40, w ∈ wsL_law := fun _ h => List.mem_append_left _ (List.mem_append_left _ (List.mem_append_left _ (List.mem_append_left _ (List.mem_append_left _ (List.mem_append_right _ h)))))
theorem inX4 : ∀ w ∈ wsX40, w ∈ lw_tbl := fun w h => wsL_law_in w (inlX4 w h)
theorem inlX5 : ∀ w ∈ wsX50, w ∈ wsL_law := fun _ h => List.mem_append_left _ (List.mem_append_left _ (List.mem_append_left _ (List.mem_append_left _ (List.mem_append_right _ h))))
theorem inX5 : ∀ w ∈ wsX50, w ∈ lw_tbl := fun w h => wsL_law_in w (inlX5 w h)
theorem inJ11 : ∀ w ∈ wsJ110, w ∈ lw_tbl := by decide +kernel
theorem inJ6 : ∀ w ∈ wsJ60, w ∈ lw_tbl := by decide +kernel
theorem inJ9 : ∀ w ∈ wsJ90, w ∈ lw_tbl := by decide +kernel
theorem inJ0 : ∀ w ∈ wsJ00, w ∈ lw_tbl := by decide +kernel
theorem inJ1 : ∀ w ∈ wsJ10, w ∈ lw_tbl := by decide +kernel
theorem inJ2 : ∀ w ∈ wsJ20, w ∈ lw_tbl := by decide +kernel
theorem inJ10 : ∀ w ∈ wsJ100, w ∈ lw_tbl := by decide +kernel
theorem inJ3 : ∀ w ∈ wsJ30, w ∈ lw_tbl := by decide +kernel
theorem dX0_init_0 : decode cX0_init 0 = .ok (.aload_n 0, 1) := by decide +kernel
theorem dX0_init_1 : decode cX0_init 1 = .ok (.invokespecial 1, 3) := by decide +kernel
theorem dX0_init_4 : decode cX0_init 4 = .ok (.aload_n 0, 1) := by decide +kernel
theorem dX0_init_5 : decode cX0_init 5 = .ok (.lconst 0, 1) := by decide +kernel
theorem dX0_init_6 : decode cX0_init 6 = .ok (.putfield 7, 3) := by decide +kernel
theorem dX0_init_9 : decode cX0_init 9 = .ok (.return_, 1) := by decide +kernel
theorem dX0_next_0 : decode cX0_next 0 = .ok (.aload_n 0, 1) := by decide +kernel
theorem dX0_next_1 : decode cX0_next 1 = .ok (.ldc2_w 13, 3) := by decide +kernel
theorem dX0_next_4 : decode cX0_next 4 = .ok (.aload_n 0, 1) := by decide +kernel
theorem dX0_next_5 : decode cX0_next 5 = .ok (.getfield 7, 3) := by decide +kernel
theorem dX0_next_8 : decode cX0_next 8 = .ok (.lmul, 1) := by decide +kernel
theorem dX0_next_9 : decode cX0_next 9 = .ok (.ldc2_w 15, 3) := by decide +kernel
theorem dX0_next_12 : decode cX0_next 12 = .ok (.ladd, 1) := by decide +kernel
theorem dX0_next_13 : decode cX0_next 13 = .ok (.ldc2_w 17, 3) := by decide +kernel
theorem dX0_next_16 : decode cX0_next 16 = .ok (.lrem, 1) := by decide +kernel
theorem dX0_next_17 : decode cX0_next 17 = .ok (.putfield 7, 3) := by decide +kernel
theorem dX0_next_20 : decode cX0_next 20 = .ok (.iload_n 1, 1) := by decide +kernel
theorem dX0_next_21 : decode cX0_next 21 = .ok (.iconst 1, 1) := by decide +kernel
theorem dX0_next_22 : decode cX0_next 22 = .ok (.if_icmp .ge 7, 3) := by decide +kernel
theorem dX0_next_25 : decode cX0_next 25 = .ok (.iconst 0, 1) := by decide +kernel
theorem dX0_next_26 : decode cX0_next 26 = .ok (.goto 15, 3) := by decide +kernel
theorem dX0_next_29 : decode cX0_next 29 = .ok (.aload_n 0, 1) := by decide +kernel
theorem dX0_next_30 : decode cX0_next 30 = .ok (.getfield 7, 3) := by decide +kernel
theorem dX0_next_33 : decode cX0_next 33 = .ok (.ldc2_w 19, 3) := by decide +kernel
theorem dX0_next_36 : decode cX0_next 36 = .ok (.ldiv, 1) := by decide +kernel
theorem dX0_next_37 : decode cX0_next 37 = .ok (.iload_n 1, 1) := by decide +kernel
theorem dX0_next_38 : decode cX0_next 38 = .ok (.i2l, 1) := by decide +kernel
theorem dX0_next_39 : decode cX0_next 39 = .ok (.lrem, 1) := by decide +kernel
theorem dX0_next_40 : decode cX0_next 40 = .ok (.l2i, 1) := by decide +kernel
theorem dX0_next_41 : decode cX0_next 41 = .ok (.ireturn, 1) := by decide +kernel
theorem dX1_isA_0 : decode cX1_isA 0 = .ok (.iload_n 1, 1) := by decide +kernel
theorem dX1_isA_1 : decode cX1_isA 1 = .ok (.ifCond .eq 18, 3) := by decide +kernel
theorem dX1_isA_4 : decode cX1_isA 4 = .ok (.iload_n 0, 1) := by decide +kernel
theorem dX1_isA_5 : decode cX1_isA 5 = .ok (.iload_n 1, 1) := by decide +kernel
theorem dX1_isA_6 : decode cX1_isA 6 = .ok (.if_icmp .eq 13, 3) := by decide +kernel
theorem dX1_isA_9 : decode cX1_isA 9 = .ok (.iload_n 0, 1) := by decide +kernel
theorem dX1_isA_10 : decode cX1_isA 10 = .ok (.iconst 4, 1) := by decide +kernel
theorem dX1_isA_11 : decode cX1_isA 11 = .ok (.if_icmp .ne 12, 3) := by decide +kernel
theorem dX1_isA_14 : decode cX1_isA 14 = .ok (.iload_n 1, 1) := by decide +kernel
theorem dX1_isA_15 : decode cX1_isA 15 = .ok (.iconst 1, 1) := by decide +kernel
theorem dX1_isA_16 : decode cX1_isA 16 = .ok (.if_icmp .ne 7, 3) := by decide +kernel
theorem dX1_isA_19 : decode cX1_isA 19 = .ok (.iconst 1, 1) := by decide +kernel
theorem dX1_isA_20 : decode cX1_isA 20 = .ok (.goto 4, 3) := by decide +kernel
theorem dX1_isA_23 : decode cX1_isA 23 = .ok (.iconst 0, 1) := by decide +kernel
theorem dX1_isA_24 : decode cX1_isA 24 = .ok (.ireturn, 1) := by decide +kernel
theorem dX1_passesOn_0 : decode cX1_passesOn 0 = .ok (.iload_n 0, 1) := by decide +kernel
theorem dX1_passesOn_1 : decode cX1_passesOn 1 = .ok (.tableswitch 61 1 4 #[31, 33, 43, 54], 31) := by decide +kernel
theorem dX1_passesOn_32 : decode cX1_passesOn 32 = .ok (.iload_n 2, 1) := by decide +kernel
theorem dX1_passesOn_33 : decode cX1_passesOn 33 = .ok (.ireturn, 1) := by decide +kernel
theorem dX1_passesOn_34 : decode cX1_passesOn 34 = .ok (.iload_n 1, 1) := by decide +kernel
theorem dX1_passesOn_35 : decode cX1_passesOn 35 = .ok (.bipush 12, 2) := by decide +kernel
theorem dX1_passesOn_37 : decode cX1_passesOn 37 = .ok (.iadd, 1) := by decide +kernel
theorem dX1_passesOn_38 : decode cX1_passesOn 38 = .ok (.iload_n 2, 1) := by decide +kernel
theorem dX1_passesOn_39 : decode cX1_passesOn 39 = .ok (.isub, 1) := by decide +kernel
theorem dX1_passesOn_40 : decode cX1_passesOn 40 = .ok (.bipush 12, 2) := by decide +kernel
theorem dX1_passesOn_42 : decode cX1_passesOn 42 = .ok (.irem, 1) := by decide +kernel
theorem dX1_passesOn_43 : decode cX1_passesOn 43 = .ok (.ireturn, 1) := by decide +kernel
theorem dX1_passesOn_44 : decode cX1_passesOn 44 = .ok (.iload_n 2, 1) := by decide +kernel
theorem dX1_passesOn_45 : decode cX1_passesOn 45 = .ok (.iload_n 2, 1) := by decide +kernel
theorem dX1_passesOn_46 : decode cX1_passesOn 46 = .ok (.iconst 2, 1) := by decide +kernel
theorem dX1_passesOn_47 : decode cX1_passesOn 47 = .ok (.irem, 1) := by decide +kernel
theorem dX1_passesOn_48 : decode cX1_passesOn 48 = .ok (.isub, 1) := by decide +kernel
theorem dX1_passesOn_49 : decode cX1_passesOn 49 = .ok (.iload_n 1, 1) := by decide +kernel
theorem dX1_passesOn_50 : decode cX1_passesOn 50 = .ok (.iadd, 1) := by decide +kernel
theorem dX1_passesOn_51 : decode cX1_passesOn 51 = .ok (.bipush 12, 2) := by decide +kernel
theorem dX1_passesOn_53 : decode cX1_passesOn 53 = .ok (.irem, 1) := by decide +kernel
theorem dX1_passesOn_54 : decode cX1_passesOn 54 = .ok (.ireturn, 1) := by decide +kernel
theorem dX1_passesOn_55 : decode cX1_passesOn 55 = .ok (.iconst 2, 1) := by decide +kernel
theorem dX1_passesOn_56 : decode cX1_passesOn 56 = .ok (.iload_n 2, 1) := by decide +kernel
theorem dX1_passesOn_57 : decode cX1_passesOn 57 = .ok (.imul, 1) := by decide +kernel
theorem dX1_passesOn_58 : decode cX1_passesOn 58 = .ok (.bipush 12, 2) := by decide +kernel
theorem dX1_passesOn_60 : decode cX1_passesOn 60 = .ok (.irem, 1) := by decide +kernel
theorem dX1_passesOn_61 : decode cX1_passesOn 61 = .ok (.ireturn, 1) := by decide +kernel
theorem dX1_passesOn_62 : decode cX1_passesOn 62 = .ok (.iload_n 2, 1) := by decide +kernel
theorem dX1_passesOn_63 : decode cX1_passesOn 63 = .ok (.iload_n 1, 1) := by decide +kernel
theorem dX1_passesOn_64 : decode cX1_passesOn 64 = .ok (.iadd, 1) := by decide +kernel
theorem dX1_passesOn_65 : decode cX1_passesOn 65 = .ok (.bipush 12, 2) := by decide +kernel
theorem dX1_passesOn_67 : decode cX1_passesOn 67 = .ok (.irem, 1) := by decide +kernel
theorem dX1_passesOn_68 : decode cX1_passesOn 68 = .ok (.ireturn, 1) := by decide +kernel
theorem dX2_init_0 : decode cX2_init 0 = .ok (.aload_n 0, 1) := by decide +kernel
theorem dX2_init_1 : decode cX2_init 1 = .ok (.invokespecial 1, 3) := by decide +kernel
theorem dX2_init_4 : decode cX2_init 4 = .ok (.aload_n 0, 1) := by decide +kernel
theorem dX2_init_5 : decode cX2_init 5 = .ok (.bipush 20, 2) := by decide +kernel
theorem dX2_init_7 : decode cX2_init 7 = .ok (.newarray .int, 2) := by decide +kernel
theorem dX2_init_9 : decode cX2_init 9 = .ok (.putfield 9, 3) := by decide +kernel
theorem dX2_init_12 : decode cX2_init 12 = .ok (.aload_n 0, 1) := by decide +kernel
theorem dX2_init_13 : decode cX2_init 13 = .ok (.iconst 0, 1) := by decide +kernel
theorem dX2_init_14 : decode cX2_init 14 = .ok (.putfield 13, 3) := by decide +kernel
theorem dX2_init_17 : decode cX2_init 17 = .ok (.return_, 1) := by decide +kernel
theorem dX2_isFull_0 : decode cX2_isFull 0 = .ok (.aload_n 0, 1) := by decide +kernel
theorem dX2_isFull_1 : decode cX2_isFull 1 = .ok (.getfield 13, 3) := by decide +kernel
theorem dX2_isFull_4 : decode cX2_isFull 4 = .ok (.bipush 20, 2) := by decide +kernel
theorem dX2_isFull_6 : decode cX2_isFull 6 = .ok (.if_icmp .lt 7, 3) := by decide +kernel
theorem dX2_isFull_9 : decode cX2_isFull 9 = .ok (.iconst 1, 1) := by decide +kernel
theorem dX2_isFull_10 : decode cX2_isFull 10 = .ok (.goto 4, 3) := by decide +kernel
theorem dX2_isFull_13 : decode cX2_isFull 13 = .ok (.iconst 0, 1) := by decide +kernel
theorem dX2_isFull_14 : decode cX2_isFull 14 = .ok (.ireturn, 1) := by decide +kernel
set_option maxRecDepth 20000 in
theorem ggX2_add_X2_isFull : GoodIn wsX2_add wsX2_isFull := goodIn_r _ [7, 2, 8, 9] (by decide +kernel) (by decide +kernel)
set_option maxRecDepth 20000 in
theorem gX2_add_X2_isFull : GoodIn wsX2_add (wsV RX2 17 RX2 yX2_isFull wsX2_isFull) := goodIn_app (goodIn_of _ (by decide +kernel)) ggX2_add_X2_isFull
theorem dX2_add_0 : decode cX2_add 0 = .ok (.aload_n 0, 1) := by decide +kernel
theorem dX2_add_1 : decode cX2_add 1 = .ok (.invokevirtual 17, 3) := by decide +kernel
theorem dX2_add_4 : decode cX2_add 4 = .ok (.ifCond .ne 23, 3) := by decide +kernel
theorem dX2_add_7 : decode cX2_add 7 = .ok (.aload_n 0, 1) := by decide +kernel
theorem dX2_add_8 : decode cX2_add 8 = .ok (.getfield 9, 3) := by decide +kernel
theorem dX2_add_11 : decode cX2_add 11 = .ok (.aload_n 0, 1) := by decide +kernel
theorem dX2_add_12 : decode cX2_add 12 = .ok (.getfield 13, 3) := by decide +kernel
theorem dX2_add_15 : decode cX2_add 15 = .ok (.iload_n 1, 1) := by decide +kernel
theorem dX2_add_16 : decode cX2_add 16 = .ok (.iastore, 1) := by decide +kernel
theorem dX2_add_17 : decode cX2_add 17 = .ok (.aload_n 0, 1) := by decide +kernel
theorem dX2_add_18 : decode cX2_add 18 = .ok (.dup, 1) := by decide +kernel
theorem dX2_add_19 : decode cX2_add 19 = .ok (.getfield 13, 3) := by decide +kernel
theorem dX2_add_22 : decode cX2_add 22 = .ok (.iconst 1, 1) := by decide +kernel
theorem dX2_add_23 : decode cX2_add 23 = .ok (.iadd, 1) := by decide +kernel
theorem dX2_add_24 : decode cX2_add 24 = .ok (.putfield 13, 3) := by decide +kernel
theorem dX2_add_27 : decode cX2_add 27 = .ok (.return_, 1) := by decide +kernel
set_option maxRecDepth 20000 in
theorem ggX2_firstMisfit_X2_fits : GoodIn wsX2_firstMisfit wsX2_fits := goodIn_r _ [6, 7, 8, 9, 10, 11, 12, 13, 14, 15, 16, 17, 18, 19, 20, 21, 22, 23, 24, 25, 26, 27, 28, 29, 30, 31, 32, 33, 34, 35, 36, 37, 38, 39, 40, 41, 42, 43, 44, 45, 46, 47, 48, 49, 50, 51, 52, 53, 54, 55, 56, 57, 58, 59, 60, 61, 62, 63, 64, 65, 66, 67, 68, 69, 70, 71, 72, 73, 74, 75, 76, 77, 78, 79, 80, 81, 82, 83, 84, 85, 86, 87, 88, 89, 90, 91, 92, 93, 94, 95, 96, 97, 98] (by decide +kernel) (by decide +kernel)
set_option maxRecDepth 20000 in
theorem gX2_firstMisfit_X2_fits : GoodIn wsX2_firstMisfit (wsV RX2 21 RX2 yX2_fits wsX2_fits) := goodIn_app (goodIn_of _ (by decide +kernel)) ggX2_firstMisfit_X2_fits
theorem dX2_firstMisfit_0 : decode cX2_firstMisfit 0 = .ok (.iconst 0, 1) := by decide +kernel
theorem dX2_firstMisfit_1 : decode cX2_firstMisfit 1 = .ok (.istore_n 1, 1) := by decide +kernel
theorem dX2_firstMisfit_2 : decode cX2_firstMisfit 2 = .ok (.iload_n 1, 1) := by decide +kernel
theorem dX2_firstMisfit_3 : decode cX2_firstMisfit 3 = .ok (.aload_n 0, 1) := by decide +kernel
theorem dX2_firstMisfit_4 : decode cX2_firstMisfit 4 = .ok (.getfield 13, 3) := by decide +kernel
theorem dX2_firstMisfit_7 : decode cX2_firstMisfit 7 = .ok (.if_icmp .ge 19, 3) := by decide +kernel
theorem dX2_firstMisfit_10 : decode cX2_firstMisfit 10 = .ok (.aload_n 0, 1) := by decide +kernel
theorem dX2_firstMisfit_11 : decode cX2_firstMisfit 11 = .ok (.iload_n 1, 1) := by decide +kernel
theorem dX2_firstMisfit_12 : decode cX2_firstMisfit 12 = .ok (.invokevirtual 21, 3) := by decide +kernel
theorem dX2_firstMisfit_15 : decode cX2_firstMisfit 15 = .ok (.ifCond .ne 5, 3) := by decide +kernel
theorem dX2_firstMisfit_18 : decode cX2_firstMisfit 18 = .ok (.iload_n 1, 1) := by decide +kernel
theorem dX2_firstMisfit_19 : decode cX2_firstMisfit 19 = .ok (.ireturn, 1) := by decide +kernel
theorem dX2_firstMisfit_20 : decode cX2_firstMisfit 20 = .ok (.iinc 1 1, 3) := by decide +kernel
theorem dX2_firstMisfit_23 : decode cX2_firstMisfit 23 = .ok (.goto (-21), 3) := by decide +kernel
theorem dX2_firstMisfit_26 : decode cX2_firstMisfit 26 = .ok (.aload_n 0, 1) := by decide +kernel
theorem dX2_firstMisfit_27 : decode cX2_firstMisfit 27 = .ok (.getfield 13, 3) := by decide +kernel
theorem dX2_firstMisfit_30 : decode cX2_firstMisfit 30 = .ok (.ireturn, 1) := by decide +kernel
set_option maxRecDepth 20000 in
theorem ggX2_isSchool_X2_children : GoodIn wsX2_isSchool wsX2_children := goodIn_r _ [6, 1, 105, 106] (by decide +kernel) (by decide +kernel)
set_option maxRecDepth 20000 in
theorem gX2_isSchool_X2_children : GoodIn wsX2_isSchool (wsV RX2 25 RX2 yX2_children wsX2_children) := goodIn_app (goodIn_of _ (by decide +kernel)) ggX2_isSchool_X2_children
set_option maxRecDepth 20000 in
theorem ggX2_isSchool_X2_firstMisfit : GoodIn wsX2_isSchool wsX2_firstMisfit := goodIn_r _ [10, 1, 11, 12, 13, 5, 14, 15, 16, 17, 18, 19, 20, 21, 22, 23, 24, 25, 26, 27, 28, 29, 30, 31, 32, 33, 34, 35, 36, 37, 38, 39, 40, 41, 42, 43, 44, 45, 46, 47, 48, 49, 50, 51, 52, 53, 54, 55, 56, 57, 58, 59, 60, 61, 62, 63, 64, 65, 66, 67, 68, 69, 70, 71, 72, 73, 74, 75, 76, 77, 78, 79, 80, 81, 82, 83, 84, 85, 86, 87, 88, 89, 90, 91, 92, 93, 94, 95, 96, 97, 98, 99, 100, 101, 102, 103, 104, 105, 106] (by decide +kernel) (by decide +kernel)
set_option maxRecDepth 20000 in
theorem gX2_isSchool_X2_firstMisfit : GoodIn wsX2_isSchool (wsV RX2 29 RX2 yX2_firstMisfit wsX2_firstMisfit) := goodIn_app (goodIn_of _ (by decide +kernel)) ggX2_isSchool_X2_firstMisfit
theorem dX2_isSchool_0 : decode cX2_isSchool 0 = .ok (.aload_n 0, 1) := by decide +kernel
theorem dX2_isSchool_1 : decode cX2_isSchool 1 = .ok (.getfield 13, 3) := by decide +kernel
theorem dX2_isSchool_4 : decode cX2_isSchool 4 = .ok (.iconst 3, 1) := by decide +kernel
theorem dX2_isSchool_5 : decode cX2_isSchool 5 = .ok (.irem, 1) := by decide +kernel
theorem dX2_isSchool_6 : decode cX2_isSchool 6 = .ok (.iconst 2, 1) := by decide +kernel
theorem dX2_isSchool_7 : decode cX2_isSchool 7 = .ok (.if_icmp .ne 26, 3) := by decide +kernel
theorem dX2_isSchool_10 : decode cX2_isSchool 10 = .ok (.aload_n 0, 1) := by decide +kernel
theorem dX2_isSchool_11 : decode cX2_isSchool 11 = .ok (.invokevirtual 25, 3) := by decide +kernel
theorem dX2_isSchool_14 : decode cX2_isSchool 14 = .ok (.iconst 2, 1) := by decide +kernel
theorem dX2_isSchool_15 : decode cX2_isSchool 15 = .ok (.if_icmp .lt 18, 3) := by decide +kernel
theorem dX2_isSchool_18 : decode cX2_isSchool 18 = .ok (.aload_n 0, 1) := by decide +kernel
theorem dX2_isSchool_19 : decode cX2_isSchool 19 = .ok (.invokevirtual 29, 3) := by decide +kernel
theorem dX2_isSchool_22 : decode cX2_isSchool 22 = .ok (.aload_n 0, 1) := by decide +kernel
theorem dX2_isSchool_23 : decode cX2_isSchool 23 = .ok (.getfield 13, 3) := by decide +kernel
theorem dX2_isSchool_26 : decode cX2_isSchool 26 = .ok (.if_icmp .ne 7, 3) := by decide +kernel
theorem dX2_isSchool_29 : decode cX2_isSchool 29 = .ok (.iconst 1, 1) := by decide +kernel
theorem dX2_isSchool_30 : decode cX2_isSchool 30 = .ok (.goto 4, 3) := by decide +kernel
theorem dX2_isSchool_33 : decode cX2_isSchool 33 = .ok (.iconst 0, 1) := by decide +kernel
theorem dX2_isSchool_34 : decode cX2_isSchool 34 = .ok (.ireturn, 1) := by decide +kernel
theorem dX2_children_0 : decode cX2_children 0 = .ok (.aload_n 0, 1) := by decide +kernel
theorem dX2_children_1 : decode cX2_children 1 = .ok (.getfield 13, 3) := by decide +kernel
theorem dX2_children_4 : decode cX2_children 4 = .ok (.iconst 1, 1) := by decide +kernel
theorem dX2_children_5 : decode cX2_children 5 = .ok (.iadd, 1) := by decide +kernel
theorem dX2_children_6 : decode cX2_children 6 = .ok (.iconst 3, 1) := by decide +kernel
theorem dX2_children_7 : decode cX2_children 7 = .ok (.idiv, 1) := by decide +kernel
theorem dX2_children_8 : decode cX2_children 8 = .ok (.ireturn, 1) := by decide +kernel
set_option maxRecDepth 20000 in
theorem ggX2_kindOf_J0_indexOf_0f7a4 : GoodIn wsX2_kindOf wsJ0_indexOf_0f7a4 := goodIn_r _ [6, 7, 8, 9, 5, 10, 11, 12, 13, 14, 15, 16, 17, 18, 19, 20, 21, 22, 23, 24, 25, 26, 27, 28, 29, 30, 31, 32, 33, 34, 35, 36, 37, 38, 39, 40, 41, 42, 43, 44, 45, 46, 47, 48, 49, 50, 51, 52, 53, 54, 55, 56, 57, 58, 59, 60, 61, 62, 63, 64, 65, 66, 67, 68, 69, 70, 71, 72, 73, 74, 75, 76, 77, 78, 79, 80, 81, 82, 83, 84, 85, 86, 87, 88, 89, 90] (by decide +kernel) (by decide +kernel)
set_option maxRecDepth 20000 in
theorem gX2_kindOf_J0_indexOf_0f7a4 : GoodIn wsX2_kindOf (wsV RX2 36 RJ0 yJ0_indexOf_0f7a4 wsJ0_indexOf_0f7a4) := goodIn_app (goodIn_of _ (by decide +kernel)) ggX2_kindOf_J0_indexOf_0f7a4
theorem dX2_kindOf_0 : decode cX2_kindOf 0 = .ok (.ldc 34, 2) := by decide +kernel
theorem dX2_kindOf_2 : decode cX2_kindOf 2 = .ok (.aload_n 0, 1) := by decide +kernel
theorem dX2_kindOf_3 : decode cX2_kindOf 3 = .ok (.getfield 9, 3) := by decide +kernel
theorem dX2_kindOf_6 : decode cX2_kindOf 6 = .ok (.iconst 3, 1) := by decide +kernel
theorem dX2_kindOf_7 : decode cX2_kindOf 7 = .ok (.iload_n 1, 1) := by decide +kernel
theorem dX2_kindOf_8 : decode cX2_kindOf 8 = .ok (.imul, 1) := by decide +kernel
theorem dX2_kindOf_9 : decode cX2_kindOf 9 = .ok (.iaload, 1) := by decide +kernel
theorem dX2_kindOf_10 : decode cX2_kindOf 10 = .ok (.i2c, 1) := by decide +kernel
theorem dX2_kindOf_11 : decode cX2_kindOf 11 = .ok (.invokevirtual 36, 3) := by decide +kernel
theorem dX2_kindOf_14 : decode cX2_kindOf 14 = .ok (.ireturn, 1) := by decide +kernel
theorem dX2_slipOf_0 : decode cX2_slipOf 0 = .ok (.aload_n 0, 1) := by decide +kernel
theorem dX2_slipOf_1 : decode cX2_slipOf 1 = .ok (.getfield 9, 3) := by decide +kernel
theorem dX2_slipOf_4 : decode cX2_slipOf 4 = .ok (.iconst 3, 1) := by decide +kernel
theorem dX2_slipOf_5 : decode cX2_slipOf 5 = .ok (.iload_n 1, 1) := by decide +kernel
theorem dX2_slipOf_6 : decode cX2_slipOf 6 = .ok (.imul, 1) := by decide +kernel
theorem dX2_slipOf_7 : decode cX2_slipOf 7 = .ok (.iconst 1, 1) := by decide +kernel
theorem dX2_slipOf_8 : decode cX2_slipOf 8 = .ok (.iadd, 1) := by decide +kernel
theorem dX2_slipOf_9 : decode cX2_slipOf 9 = .ok (.iaload, 1) := by decide +kernel
theorem dX2_slipOf_10 : decode cX2_slipOf 10 = .ok (.bipush 48, 2) := by decide +kernel
theorem dX2_slipOf_12 : decode cX2_slipOf 12 = .ok (.isub, 1) := by decide +kernel
theorem dX2_slipOf_13 : decode cX2_slipOf 13 = .ok (.ireturn, 1) := by decide +kernel
set_option maxRecDepth 20000 in
theorem ggX2_fits_J0_indexOf_0f7a4 : GoodIn wsX2_fits wsJ0_indexOf_0f7a4 := goodIn_r _ [6, 7, 8, 9, 5, 10, 11, 12, 13, 14, 15, 16, 17, 18, 19, 20, 21, 22, 23, 24, 25, 26, 27, 28, 29, 30, 31, 32, 33, 34, 35, 36, 37, 38, 39, 40, 41, 42, 43, 44, 45, 46, 47, 48, 49, 50, 51, 52, 53, 54, 55, 56, 57, 58, 59, 60, 61, 62, 63, 64, 65, 66, 67, 68, 69, 70, 71, 72, 73, 74, 75, 76, 77, 78, 79, 80, 81, 82, 83, 84, 85, 86, 87, 88, 89, 90] (by decide +kernel) (by decide +kernel)
set_option maxRecDepth 20000 in
theorem gX2_fits_J0_indexOf_0f7a4 : GoodIn wsX2_fits (wsV RX2 36 RJ0 yJ0_indexOf_0f7a4 wsJ0_indexOf_0f7a4) := goodIn_app (goodIn_of _ (by decide +kernel)) ggX2_fits_J0_indexOf_0f7a4
theorem dX2_fits_0 : decode cX2_fits 0 = .ok (.aload_n 0, 1) := by decide +kernel
theorem dX2_fits_1 : decode cX2_fits 1 = .ok (.getfield 9, 3) := by decide +kernel
theorem dX2_fits_4 : decode cX2_fits 4 = .ok (.iload_n 1, 1) := by decide +kernel
theorem dX2_fits_5 : decode cX2_fits 5 = .ok (.iaload, 1) := by decide +kernel
theorem dX2_fits_6 : decode cX2_fits 6 = .ok (.istore_n 2, 1) := by decide +kernel
theorem dX2_fits_7 : decode cX2_fits 7 = .ok (.iload_n 1, 1) := by decide +kernel
theorem dX2_fits_8 : decode cX2_fits 8 = .ok (.iconst 3, 1) := by decide +kernel
theorem dX2_fits_9 : decode cX2_fits 9 = .ok (.irem, 1) := by decide +kernel
theorem dX2_fits_10 : decode cX2_fits 10 = .ok (.lookupswitch 68 #[(0, 26), (1, 50)], 26) := by decide +kernel
theorem dX2_fits_36 : decode cX2_fits 36 = .ok (.iload_n 1, 1) := by decide +kernel
theorem dX2_fits_37 : decode cX2_fits 37 = .ok (.iconst 3, 1) := by decide +kernel
theorem dX2_fits_38 : decode cX2_fits 38 = .ok (.idiv, 1) := by decide +kernel
theorem dX2_fits_39 : decode cX2_fits 39 = .ok (.bipush 6, 2) := by decide +kernel
theorem dX2_fits_41 : decode cX2_fits 41 = .ok (.if_icmp .ge 17, 3) := by decide +kernel
theorem dX2_fits_44 : decode cX2_fits 44 = .ok (.ldc 34, 2) := by decide +kernel
theorem dX2_fits_46 : decode cX2_fits 46 = .ok (.iload_n 2, 1) := by decide +kernel
theorem dX2_fits_47 : decode cX2_fits 47 = .ok (.i2c, 1) := by decide +kernel
theorem dX2_fits_48 : decode cX2_fits 48 = .ok (.invokevirtual 36, 3) := by decide +kernel
theorem dX2_fits_51 : decode cX2_fits 51 = .ok (.ifCond .lt 7, 3) := by decide +kernel
theorem dX2_fits_54 : decode cX2_fits 54 = .ok (.iconst 1, 1) := by decide +kernel
theorem dX2_fits_55 : decode cX2_fits 55 = .ok (.goto 4, 3) := by decide +kernel
theorem dX2_fits_58 : decode cX2_fits 58 = .ok (.iconst 0, 1) := by decide +kernel
theorem dX2_fits_59 : decode cX2_fits 59 = .ok (.ireturn, 1) := by decide +kernel
theorem dX2_fits_60 : decode cX2_fits 60 = .ok (.iload_n 2, 1) := by decide +kernel
theorem dX2_fits_61 : decode cX2_fits 61 = .ok (.bipush 48, 2) := by decide +kernel
theorem dX2_fits_63 : decode cX2_fits 63 = .ok (.if_icmp .lt 13, 3) := by decide +kernel
theorem dX2_fits_66 : decode cX2_fits 66 = .ok (.iload_n 2, 1) := by decide +kernel
theorem dX2_fits_67 : decode cX2_fits 67 = .ok (.bipush 57, 2) := by decide +kernel
theorem dX2_fits_69 : decode cX2_fits 69 = .ok (.if_icmp .gt 7, 3) := by decide +kernel
theorem dX2_fits_72 : decode cX2_fits 72 = .ok (.iconst 1, 1) := by decide +kernel
theorem dX2_fits_73 : decode cX2_fits 73 = .ok (.goto 4, 3) := by decide +kernel
theorem dX2_fits_76 : decode cX2_fits 76 = .ok (.iconst 0, 1) := by decide +kernel
theorem dX2_fits_77 : decode cX2_fits 77 = .ok (.ireturn, 1) := by decide +kernel
theorem dX2_fits_78 : decode cX2_fits 78 = .ok (.iload_n 1, 1) := by decide +kernel
theorem dX2_fits_79 : decode cX2_fits 79 = .ok (.iconst 3, 1) := by decide +kernel
theorem dX2_fits_80 : decode cX2_fits 80 = .ok (.idiv, 1) := by decide +kernel
theorem dX2_fits_81 : decode cX2_fits 81 = .ok (.iconst 5, 1) := by decide +kernel
theorem dX2_fits_82 : decode cX2_fits 82 = .ok (.if_icmp .ge 13, 3) := by decide +kernel
theorem dX2_fits_85 : decode cX2_fits 85 = .ok (.iload_n 2, 1) := by decide +kernel
theorem dX2_fits_86 : decode cX2_fits 86 = .ok (.bipush 44, 2) := by decide +kernel
theorem dX2_fits_88 : decode cX2_fits 88 = .ok (.if_icmp .ne 7, 3) := by decide +kernel
theorem dX2_fits_91 : decode cX2_fits 91 = .ok (.iconst 1, 1) := by decide +kernel
theorem dX2_fits_92 : decode cX2_fits 92 = .ok (.goto 4, 3) := by decide +kernel
theorem dX2_fits_95 : decode cX2_fits 95 = .ok (.iconst 0, 1) := by decide +kernel
theorem dX2_fits_96 : decode cX2_fits 96 = .ok (.ireturn, 1) := by decide +kernel
theorem dX3_init_0 : decode cX3_init 0 = .ok (.aload_n 0, 1) := by decide +kernel
theorem dX3_init_1 : decode cX3_init 1 = .ok (.invokespecial 3, 3) := by decide +kernel
theorem dX3_init_4 : decode cX3_init 4 = .ok (.aload_n 0, 1) := by decide +kernel
theorem dX3_init_5 : decode cX3_init 5 = .ok (.bipush 6, 2) := by decide +kernel
theorem dX3_init_7 : decode cX3_init 7 = .ok (.newarray .int, 2) := by decide +kernel
theorem dX3_init_9 : decode cX3_init 9 = .ok (.putfield 11, 3) := by decide +kernel
theorem dX3_init_12 : decode cX3_init 12 = .ok (.aload_n 0, 1) := by decide +kernel
theorem dX3_init_13 : decode cX3_init 13 = .ok (.bipush 6, 2) := by decide +kernel
theorem dX3_init_15 : decode cX3_init 15 = .ok (.newarray .int, 2) := by decide +kernel
theorem dX3_init_17 : decode cX3_init 17 = .ok (.putfield 15, 3) := by decide +kernel
theorem dX3_init_20 : decode cX3_init 20 = .ok (.aload_n 0, 1) := by decide +kernel
theorem dX3_init_21 : decode cX3_init 21 = .ok (.bipush 6, 2) := by decide +kernel
theorem dX3_init_23 : decode cX3_init 23 = .ok (.newarray .int, 2) := by decide +kernel
theorem dX3_init_25 : decode cX3_init 25 = .ok (.putfield 18, 3) := by decide +kernel
theorem dX3_init_28 : decode cX3_init 28 = .ok (.aload_n 0, 1) := by decide +kernel
theorem dX3_init_29 : decode cX3_init 29 = .ok (.bipush 6, 2) := by decide +kernel
theorem dX3_init_31 : decode cX3_init 31 = .ok (.newarray .boolean, 2) := by decide +kernel
theorem dX3_init_33 : decode cX3_init 33 = .ok (.putfield 21, 3) := by decide +kernel
theorem dX3_init_36 : decode cX3_init 36 = .ok (.aload_n 0, 1) := by decide +kernel
theorem dX3_init_37 : decode cX3_init 37 = .ok (.bipush 8, 2) := by decide +kernel
theorem dX3_init_39 : decode cX3_init 39 = .ok (.newarray .int, 2) := by decide +kernel
theorem dX3_init_41 : decode cX3_init 41 = .ok (.putfield 25, 3) := by decide +kernel
theorem dX3_init_44 : decode cX3_init 44 = .ok (.aload_n 0, 1) := by decide +kernel
theorem dX3_init_45 : decode cX3_init 45 = .ok (.bipush 8, 2) := by decide +kernel
theorem dX3_init_47 : decode cX3_init 47 = .ok (.newarray .int, 2) := by decide +kernel
theorem dX3_init_49 : decode cX3_init 49 = .ok (.putfield 28, 3) := by decide +kernel
theorem dX3_init_52 : decode cX3_init 52 = .ok (.aload_n 0, 1) := by decide +kernel
theorem dX3_init_53 : decode cX3_init 53 = .ok (.bipush 8, 2) := by decide +kernel
theorem dX3_init_55 : decode cX3_init 55 = .ok (.newarray .int, 2) := by decide +kernel
theorem dX3_init_57 : decode cX3_init 57 = .ok (.putfield 31, 3) := by decide +kernel
theorem dX3_init_60 : decode cX3_init 60 = .ok (.aload_n 0, 1) := by decide +kernel
theorem dX3_init_61 : decode cX3_init 61 = .ok (.iconst 0, 1) := by decide +kernel
theorem dX3_init_62 : decode cX3_init 62 = .ok (.putfield 34, 3) := by decide +kernel
theorem dX3_init_65 : decode cX3_init 65 = .ok (.aload_n 0, 1) := by decide +kernel
theorem dX3_init_66 : decode cX3_init 66 = .ok (.iconst 0, 1) := by decide +kernel
theorem dX3_init_67 : decode cX3_init 67 = .ok (.putfield 38, 3) := by decide +kernel
theorem dX3_init_70 : decode cX3_init 70 = .ok (.aload_n 0, 1) := by decide +kernel
theorem dX3_init_71 : decode cX3_init 71 = .ok (.iconst 0, 1) := by decide +kernel
theorem dX3_init_72 : decode cX3_init 72 = .ok (.putfield 41, 3) := by decide +kernel
theorem dX3_init_75 : decode cX3_init 75 = .ok (.aload_n 0, 1) := by decide +kernel
theorem dX3_init_76 : decode cX3_init 76 = .ok (.iconst 0, 1) := by decide +kernel
theorem dX3_init_77 : decode cX3_init 77 = .ok (.putfield 44, 3) := by decide +kernel
theorem dX3_init_80 : decode cX3_init 80 = .ok (.return_, 1) := by decide +kernel
theorem dX3_isNone_0 : decode cX3_isNone 0 = .ok (.aload_n 0, 1) := by decide +kernel
theorem dX3_isNone_1 : decode cX3_isNone 1 = .ok (.getfield 34, 3) := by decide +kernel
theorem dX3_isNone_4 : decode cX3_isNone 4 = .ok (.ifCond .ne 7, 3) := by decide +kernel
theorem dX3_isNone_7 : decode cX3_isNone 7 = .ok (.iconst 1, 1) := by decide +kernel
theorem dX3_isNone_8 : decode cX3_isNone 8 = .ok (.goto 4, 3) := by decide +kernel
theorem dX3_isNone_11 : decode cX3_isNone 11 = .ok (.iconst 0, 1) := by decide +kernel
theorem dX3_isNone_12 : decode cX3_isNone 12 = .ok (.ireturn, 1) := by decide +kernel
theorem dX3_has_0 : decode cX3_has 0 = .ok (.iload_n 1, 1) := by decide +kernel
theorem dX3_has_1 : decode cX3_has 1 = .ok (.ifCond .lt 15, 3) := by decide +kernel
theorem dX3_has_4 : decode cX3_has 4 = .ok (.iload_n 1, 1) := by decide +kernel
theorem dX3_has_5 : decode cX3_has 5 = .ok (.aload_n 0, 1) := by decide +kernel
theorem dX3_has_6 : decode cX3_has 6 = .ok (.getfield 34, 3) := by decide +kernel
theorem dX3_has_9 : decode cX3_has 9 = .ok (.if_icmp .ge 7, 3) := by decide +kernel
theorem dX3_has_12 : decode cX3_has 12 = .ok (.iconst 1, 1) := by decide +kernel
theorem dX3_has_13 : decode cX3_has 13 = .ok (.goto 4, 3) := by decide +kernel
theorem dX3_has_16 : decode cX3_has 16 = .ok (.iconst 0, 1) := by decide +kernel
theorem dX3_has_17 : decode cX3_has 17 = .ok (.ireturn, 1) := by decide +kernel
theorem dX3_top_0 : decode cX3_top 0 = .ok (.aload_n 0, 1) := by decide +kernel
theorem dX3_top_1 : decode cX3_top 1 = .ok (.getfield 34, 3) := by decide +kernel
theorem dX3_top_4 : decode cX3_top 4 = .ok (.iconst 1, 1) := by decide +kernel
theorem dX3_top_5 : decode cX3_top 5 = .ok (.isub, 1) := by decide +kernel
theorem dX3_top_6 : decode cX3_top 6 = .ok (.ireturn, 1) := by decide +kernel
set_option maxRecDepth 20000 in
theorem ggX3_readFrom_X2_children : GoodIn wsX3_readFrom wsX2_children := goodIn_r _ [17, 18, 125, 126] (by decide +kernel) (by decide +kernel)
set_option maxRecDepth 20000 in
theorem gX3_readFrom_X2_children : GoodIn wsX3_readFrom (wsV RX3 47 RX2 yX2_children wsX2_children) := goodIn_app (goodIn_of _ (by decide +kernel)) ggX3_readFrom_X2_children
set_option maxRecDepth 20000 in
theorem ggX3_readFrom_X2_kindOf : GoodIn wsX3_readFrom wsX2_kindOf := goodIn_r _ [22, 23, 24, 25, 26, 27, 28, 29, 30, 31, 32, 33, 34, 35, 36, 37, 38, 39, 40, 41, 42, 43, 44, 45, 46, 47, 48, 49, 50, 51, 52, 53, 3, 54, 55, 2, 4, 56, 57, 58, 59, 60, 61, 62, 63, 64, 65, 66, 67, 68, 69, 70, 71, 72, 73, 74, 75, 76, 77, 78, 79, 80, 81, 82, 83, 84, 85, 86, 87, 88, 89, 90, 91, 92, 93, 94, 95, 96, 97, 98, 99, 100, 101, 102, 103, 104, 105, 106, 107, 108, 109, 125, 126] (by decide +kernel) (by decide +kernel)
set_option maxRecDepth 20000 in
theorem gX3_readFrom_X2_kindOf : GoodIn wsX3_readFrom (wsV RX3 59 RX2 yX2_kindOf wsX2_kindOf) := goodIn_app (goodIn_of _ (by decide +kernel)) ggX3_readFrom_X2_kindOf
set_option maxRecDepth 20000 in
theorem ggX3_readFrom_X2_slipOf : GoodIn wsX3_readFrom wsX2_slipOf := goodIn_r _ [113, 23, 125, 126] (by decide +kernel) (by decide +kernel)
set_option maxRecDepth 20000 in
theorem gX3_readFrom_X2_slipOf : GoodIn wsX3_readFrom (wsV RX3 63 RX2 yX2_slipOf wsX2_slipOf) := goodIn_app (goodIn_of _ (by decide +kernel)) ggX3_readFrom_X2_slipOf
theorem dX3_readFrom_0 : decode cX3_readFrom 0 = .ok (.aload_n 0, 1) := by decide +kernel
theorem dX3_readFrom_1 : decode cX3_readFrom 1 = .ok (.aload_n 1, 1) := by decide +kernel
theorem dX3_readFrom_2 : decode cX3_readFrom 2 = .ok (.invokevirtual 47, 3) := by decide +kernel
theorem dX3_readFrom_5 : decode cX3_readFrom 5 = .ok (.bipush 6, 2) := by decide +kernel
theorem dX3_readFrom_7 : decode cX3_readFrom 7 = .ok (.invokestatic 53, 3) := by decide +kernel
theorem dX3_readFrom_10 : decode cX3_readFrom 10 = .ok (.putfield 34, 3) := by decide +kernel
theorem dX3_readFrom_13 : decode cX3_readFrom 13 = .ok (.aload_n 0, 1) := by decide +kernel
theorem dX3_readFrom_14 : decode cX3_readFrom 14 = .ok (.iconst 0, 1) := by decide +kernel
theorem dX3_readFrom_15 : decode cX3_readFrom 15 = .ok (.putfield 38, 3) := by decide +kernel
theorem dX3_readFrom_18 : decode cX3_readFrom 18 = .ok (.aload_n 0, 1) := by decide +kernel
theorem dX3_readFrom_19 : decode cX3_readFrom 19 = .ok (.iconst 0, 1) := by decide +kernel
theorem dX3_readFrom_20 : decode cX3_readFrom 20 = .ok (.putfield 41, 3) := by decide +kernel
theorem dX3_readFrom_23 : decode cX3_readFrom 23 = .ok (.aload_n 0, 1) := by decide +kernel
theorem dX3_readFrom_24 : decode cX3_readFrom 24 = .ok (.iconst 0, 1) := by decide +kernel
theorem dX3_readFrom_25 : decode cX3_readFrom 25 = .ok (.putfield 44, 3) := by decide +kernel
theorem dX3_readFrom_28 : decode cX3_readFrom 28 = .ok (.iconst 0, 1) := by decide +kernel
theorem dX3_readFrom_29 : decode cX3_readFrom 29 = .ok (.istore_n 2, 1) := by decide +kernel
theorem dX3_readFrom_30 : decode cX3_readFrom 30 = .ok (.iload_n 2, 1) := by decide +kernel
theorem dX3_readFrom_31 : decode cX3_readFrom 31 = .ok (.aload_n 0, 1) := by decide +kernel
theorem dX3_readFrom_32 : decode cX3_readFrom 32 = .ok (.getfield 34, 3) := by decide +kernel
theorem dX3_readFrom_35 : decode cX3_readFrom 35 = .ok (.if_icmp .ge 45, 3) := by decide +kernel
theorem dX3_readFrom_38 : decode cX3_readFrom 38 = .ok (.aload_n 0, 1) := by decide +kernel
theorem dX3_readFrom_39 : decode cX3_readFrom 39 = .ok (.getfield 11, 3) := by decide +kernel
theorem dX3_readFrom_42 : decode cX3_readFrom 42 = .ok (.iload_n 2, 1) := by decide +kernel
theorem dX3_readFrom_43 : decode cX3_readFrom 43 = .ok (.aload_n 1, 1) := by decide +kernel
theorem dX3_readFrom_44 : decode cX3_readFrom 44 = .ok (.iload_n 2, 1) := by decide +kernel
theorem dX3_readFrom_45 : decode cX3_readFrom 45 = .ok (.invokevirtual 59, 3) := by decide +kernel
theorem dX3_readFrom_48 : decode cX3_readFrom 48 = .ok (.iastore, 1) := by decide +kernel
theorem dX3_readFrom_49 : decode cX3_readFrom 49 = .ok (.aload_n 0, 1) := by decide +kernel
theorem dX3_readFrom_50 : decode cX3_readFrom 50 = .ok (.getfield 15, 3) := by decide +kernel
theorem dX3_readFrom_53 : decode cX3_readFrom 53 = .ok (.iload_n 2, 1) := by decide +kernel
theorem dX3_readFrom_54 : decode cX3_readFrom 54 = .ok (.aload_n 1, 1) := by decide +kernel
theorem dX3_readFrom_55 : decode cX3_readFrom 55 = .ok (.iload_n 2, 1) := by decide +kernel
theorem dX3_readFrom_56 : decode cX3_readFrom 56 = .ok (.invokevirtual 63, 3) := by decide +kernel
theorem dX3_readFrom_59 : decode cX3_readFrom 59 = .ok (.iastore, 1) := by decide +kernel
theorem dX3_readFrom_60 : decode cX3_readFrom 60 = .ok (.aload_n 0, 1) := by decide +kernel
theorem dX3_readFrom_61 : decode cX3_readFrom 61 = .ok (.getfield 18, 3) := by decide +kernel
theorem dX3_readFrom_64 : decode cX3_readFrom 64 = .ok (.iload_n 2, 1) := by decide +kernel
theorem dX3_readFrom_65 : decode cX3_readFrom 65 = .ok (.iconst (-1), 1) := by decide +kernel
theorem dX3_readFrom_66 : decode cX3_readFrom 66 = .ok (.iastore, 1) := by decide +kernel
theorem dX3_readFrom_67 : decode cX3_readFrom 67 = .ok (.aload_n 0, 1) := by decide +kernel
theorem dX3_readFrom_68 : decode cX3_readFrom 68 = .ok (.getfield 21, 3) := by decide +kernel
theorem dX3_readFrom_71 : decode cX3_readFrom 71 = .ok (.iload_n 2, 1) := by decide +kernel
theorem dX3_readFrom_72 : decode cX3_readFrom 72 = .ok (.iconst 0, 1) := by decide +kernel
theorem dX3_readFrom_73 : decode cX3_readFrom 73 = .ok (.bastore, 1) := by decide +kernel
theorem dX3_readFrom_74 : decode cX3_readFrom 74 = .ok (.iinc 2 1, 3) := by decide +kernel
theorem dX3_readFrom_77 : decode cX3_readFrom 77 = .ok (.goto (-47), 3) := by decide +kernel
theorem dX3_readFrom_80 : decode cX3_readFrom 80 = .ok (.return_, 1) := by decide +kernel
theorem dX3_copyFrom_0 : decode cX3_copyFrom 0 = .ok (.aload_n 0, 1) := by decide +kernel
theorem dX3_copyFrom_1 : decode cX3_copyFrom 1 = .ok (.aload_n 1, 1) := by decide +kernel
theorem dX3_copyFrom_2 : decode cX3_copyFrom 2 = .ok (.getfield 34, 3) := by decide +kernel
theorem dX3_copyFrom_5 : decode cX3_copyFrom 5 = .ok (.putfield 34, 3) := by decide +kernel
theorem dX3_copyFrom_8 : decode cX3_copyFrom 8 = .ok (.aload_n 0, 1) := by decide +kernel
theorem dX3_copyFrom_9 : decode cX3_copyFrom 9 = .ok (.aload_n 1, 1) := by decide +kernel
theorem dX3_copyFrom_10 : decode cX3_copyFrom 10 = .ok (.getfield 38, 3) := by decide +kernel
theorem dX3_copyFrom_13 : decode cX3_copyFrom 13 = .ok (.putfield 38, 3) := by decide +kernel
theorem dX3_copyFrom_16 : decode cX3_copyFrom 16 = .ok (.aload_n 0, 1) := by decide +kernel
theorem dX3_copyFrom_17 : decode cX3_copyFrom 17 = .ok (.aload_n 1, 1) := by decide +kernel
theorem dX3_copyFrom_18 : decode cX3_copyFrom 18 = .ok (.getfield 41, 3) := by decide +kernel
theorem dX3_copyFrom_21 : decode cX3_copyFrom 21 = .ok (.putfield 41, 3) := by decide +kernel
theorem dX3_copyFrom_24 : decode cX3_copyFrom 24 = .ok (.aload_n 0, 1) := by decide +kernel
theorem dX3_copyFrom_25 : decode cX3_copyFrom 25 = .ok (.aload_n 1, 1) := by decide +kernel
theorem dX3_copyFrom_26 : decode cX3_copyFrom 26 = .ok (.getfield 44, 3) := by decide +kernel
theorem dX3_copyFrom_29 : decode cX3_copyFrom 29 = .ok (.putfield 44, 3) := by decide +kernel
theorem dX3_copyFrom_32 : decode cX3_copyFrom 32 = .ok (.aload_n 1, 1) := by decide +kernel
theorem dX3_copyFrom_33 : decode cX3_copyFrom 33 = .ok (.getfield 11, 3) := by decide +kernel
theorem dX3_copyFrom_36 : decode cX3_copyFrom 36 = .ok (.iconst 0, 1) := by decide +kernel
theorem dX3_copyFrom_37 : decode cX3_copyFrom 37 = .ok (.aload_n 0, 1) := by decide +kernel
theorem dX3_copyFrom_38 : decode cX3_copyFrom 38 = .ok (.getfield 11, 3) := by decide +kernel
theorem dX3_copyFrom_41 : decode cX3_copyFrom 41 = .ok (.iconst 0, 1) := by decide +kernel
theorem dX3_copyFrom_42 : decode cX3_copyFrom 42 = .ok (.bipush 6, 2) := by decide +kernel
theorem dX3_copyFrom_44 : decode cX3_copyFrom 44 = .ok (.invokestatic 66, 3) := by decide +kernel
theorem dX3_copyFrom_47 : decode cX3_copyFrom 47 = .ok (.aload_n 1, 1) := by decide +kernel
theorem dX3_copyFrom_48 : decode cX3_copyFrom 48 = .ok (.getfield 15, 3) := by decide +kernel
theorem dX3_copyFrom_51 : decode cX3_copyFrom 51 = .ok (.iconst 0, 1) := by decide +kernel
theorem dX3_copyFrom_52 : decode cX3_copyFrom 52 = .ok (.aload_n 0, 1) := by decide +kernel
theorem dX3_copyFrom_53 : decode cX3_copyFrom 53 = .ok (.getfield 15, 3) := by decide +kernel
theorem dX3_copyFrom_56 : decode cX3_copyFrom 56 = .ok (.iconst 0, 1) := by decide +kernel
theorem dX3_copyFrom_57 : decode cX3_copyFrom 57 = .ok (.bipush 6, 2) := by decide +kernel
theorem dX3_copyFrom_59 : decode cX3_copyFrom 59 = .ok (.invokestatic 66, 3) := by decide +kernel
theorem dX3_copyFrom_62 : decode cX3_copyFrom 62 = .ok (.aload_n 1, 1) := by decide +kernel
theorem dX3_copyFrom_63 : decode cX3_copyFrom 63 = .ok (.getfield 18, 3) := by decide +kernel
theorem dX3_copyFrom_66 : decode cX3_copyFrom 66 = .ok (.iconst 0, 1) := by decide +kernel
theorem dX3_copyFrom_67 : decode cX3_copyFrom 67 = .ok (.aload_n 0, 1) := by decide +kernel
theorem dX3_copyFrom_68 : decode cX3_copyFrom 68 = .ok (.getfield 18, 3) := by decide +kernel
theorem dX3_copyFrom_71 : decode cX3_copyFrom 71 = .ok (.iconst 0, 1) := by decide +kernel
theorem dX3_copyFrom_72 : decode cX3_copyFrom 72 = .ok (.bipush 6, 2) := by decide +kernel
theorem dX3_copyFrom_74 : decode cX3_copyFrom 74 = .ok (.invokestatic 66, 3) := by decide +kernel
theorem dX3_copyFrom_77 : decode cX3_copyFrom 77 = .ok (.aload_n 1, 1) := by decide +kernel
theorem dX3_copyFrom_78 : decode cX3_copyFrom 78 = .ok (.getfield 21, 3) := by decide +kernel
theorem dX3_copyFrom_81 : decode cX3_copyFrom 81 = .ok (.iconst 0, 1) := by decide +kernel
theorem dX3_copyFrom_82 : decode cX3_copyFrom 82 = .ok (.aload_n 0, 1) := by decide +kernel
theorem dX3_copyFrom_83 : decode cX3_copyFrom 83 = .ok (.getfield 21, 3) := by decide +kernel
theorem dX3_copyFrom_86 : decode cX3_copyFrom 86 = .ok (.iconst 0, 1) := by decide +kernel
theorem dX3_copyFrom_87 : decode cX3_copyFrom 87 = .ok (.bipush 6, 2) := by decide +kernel
theorem dX3_copyFrom_89 : decode cX3_copyFrom 89 = .ok (.invokestatic 66, 3) := by decide +kernel
theorem dX3_copyFrom_92 : decode cX3_copyFrom 92 = .ok (.aload_n 1, 1) := by decide +kernel
theorem dX3_copyFrom_93 : decode cX3_copyFrom 93 = .ok (.getfield 25, 3) := by decide +kernel
theorem dX3_copyFrom_96 : decode cX3_copyFrom 96 = .ok (.iconst 0, 1) := by decide +kernel
theorem dX3_copyFrom_97 : decode cX3_copyFrom 97 = .ok (.aload_n 0, 1) := by decide +kernel
theorem dX3_copyFrom_98 : decode cX3_copyFrom 98 = .ok (.getfield 25, 3) := by decide +kernel
theorem dX3_copyFrom_101 : decode cX3_copyFrom 101 = .ok (.iconst 0, 1) := by decide +kernel
theorem dX3_copyFrom_102 : decode cX3_copyFrom 102 = .ok (.bipush 8, 2) := by decide +kernel
theorem dX3_copyFrom_104 : decode cX3_copyFrom 104 = .ok (.invokestatic 66, 3) := by decide +kernel
theorem dX3_copyFrom_107 : decode cX3_copyFrom 107 = .ok (.aload_n 1, 1) := by decide +kernel
theorem dX3_copyFrom_108 : decode cX3_copyFrom 108 = .ok (.getfield 28, 3) := by decide +kernel
theorem dX3_copyFrom_111 : decode cX3_copyFrom 111 = .ok (.iconst 0, 1) := by decide +kernel
theorem dX3_copyFrom_112 : decode cX3_copyFrom 112 = .ok (.aload_n 0, 1) := by decide +kernel
theorem dX3_copyFrom_113 : decode cX3_copyFrom 113 = .ok (.getfield 28, 3) := by decide +kernel
theorem dX3_copyFrom_116 : decode cX3_copyFrom 116 = .ok (.iconst 0, 1) := by decide +kernel
theorem dX3_copyFrom_117 : decode cX3_copyFrom 117 = .ok (.bipush 8, 2) := by decide +kernel
theorem dX3_copyFrom_119 : decode cX3_copyFrom 119 = .ok (.invokestatic 66, 3) := by decide +kernel
theorem dX3_copyFrom_122 : decode cX3_copyFrom 122 = .ok (.aload_n 1, 1) := by decide +kernel
theorem dX3_copyFrom_123 : decode cX3_copyFrom 123 = .ok (.getfield 31, 3) := by decide +kernel
theorem dX3_copyFrom_126 : decode cX3_copyFrom 126 = .ok (.iconst 0, 1) := by decide +kernel
theorem dX3_copyFrom_127 : decode cX3_copyFrom 127 = .ok (.aload_n 0, 1) := by decide +kernel
theorem dX3_copyFrom_128 : decode cX3_copyFrom 128 = .ok (.getfield 31, 3) := by decide +kernel
theorem dX3_copyFrom_131 : decode cX3_copyFrom 131 = .ok (.iconst 0, 1) := by decide +kernel
theorem dX3_copyFrom_132 : decode cX3_copyFrom 132 = .ok (.bipush 8, 2) := by decide +kernel
theorem dX3_copyFrom_134 : decode cX3_copyFrom 134 = .ok (.invokestatic 66, 3) := by decide +kernel
theorem dX3_copyFrom_137 : decode cX3_copyFrom 137 = .ok (.return_, 1) := by decide +kernel
set_option maxRecDepth 20000 in
theorem ggX3_taughtNowBy_X1_passesOn : GoodIn wsX3_taughtNowBy wsX1_passesOn := goodIn_r _ [8] (by decide +kernel) (by decide +kernel)
set_option maxRecDepth 20000 in
theorem gX3_taughtNowBy_X1_passesOn : GoodIn wsX3_taughtNowBy (va_wsS RX3 72 yX1_passesOn wsX1_passesOn) := goodIn_app (goodIn_of _ (by decide +kernel)) ggX3_taughtNowBy_X1_passesOn
theorem dX3_taughtNowBy_0 : decode cX3_taughtNowBy 0 = .ok (.aload_n 0, 1) := by decide +kernel
theorem dX3_taughtNowBy_1 : decode cX3_taughtNowBy 1 = .ok (.getfield 18, 3) := by decide +kernel
theorem dX3_taughtNowBy_4 : decode cX3_taughtNowBy 4 = .ok (.iload_n 1, 1) := by decide +kernel
theorem dX3_taughtNowBy_5 : decode cX3_taughtNowBy 5 = .ok (.iaload, 1) := by decide +kernel
theorem dX3_taughtNowBy_6 : decode cX3_taughtNowBy 6 = .ok (.iconst (-1), 1) := by decide +kernel
theorem dX3_taughtNowBy_7 : decode cX3_taughtNowBy 7 = .ok (.if_icmp .eq 12, 3) := by decide +kernel
theorem dX3_taughtNowBy_10 : decode cX3_taughtNowBy 10 = .ok (.aload_n 0, 1) := by decide +kernel
theorem dX3_taughtNowBy_11 : decode cX3_taughtNowBy 11 = .ok (.getfield 21, 3) := by decide +kernel
theorem dX3_taughtNowBy_14 : decode cX3_taughtNowBy 14 = .ok (.iload_n 1, 1) := by decide +kernel
theorem dX3_taughtNowBy_15 : decode cX3_taughtNowBy 15 = .ok (.baload, 1) := by decide +kernel
theorem dX3_taughtNowBy_16 : decode cX3_taughtNowBy 16 = .ok (.ifCond .eq 7, 3) := by decide +kernel
theorem dX3_taughtNowBy_19 : decode cX3_taughtNowBy 19 = .ok (.iconst (-1), 1) := by decide +kernel
theorem dX3_taughtNowBy_20 : decode cX3_taughtNowBy 20 = .ok (.goto 24, 3) := by decide +kernel
theorem dX3_taughtNowBy_23 : decode cX3_taughtNowBy 23 = .ok (.aload_n 0, 1) := by decide +kernel
theorem dX3_taughtNowBy_24 : decode cX3_taughtNowBy 24 = .ok (.getfield 11, 3) := by decide +kernel
theorem dX3_taughtNowBy_27 : decode cX3_taughtNowBy 27 = .ok (.iload_n 1, 1) := by decide +kernel
theorem dX3_taughtNowBy_28 : decode cX3_taughtNowBy 28 = .ok (.iaload, 1) := by decide +kernel
theorem dX3_taughtNowBy_29 : decode cX3_taughtNowBy 29 = .ok (.aload_n 0, 1) := by decide +kernel
theorem dX3_taughtNowBy_30 : decode cX3_taughtNowBy 30 = .ok (.getfield 15, 3) := by decide +kernel
theorem dX3_taughtNowBy_33 : decode cX3_taughtNowBy 33 = .ok (.iload_n 1, 1) := by decide +kernel
theorem dX3_taughtNowBy_34 : decode cX3_taughtNowBy 34 = .ok (.iaload, 1) := by decide +kernel
theorem dX3_taughtNowBy_35 : decode cX3_taughtNowBy 35 = .ok (.aload_n 0, 1) := by decide +kernel
theorem dX3_taughtNowBy_36 : decode cX3_taughtNowBy 36 = .ok (.getfield 18, 3) := by decide +kernel
theorem dX3_taughtNowBy_39 : decode cX3_taughtNowBy 39 = .ok (.iload_n 1, 1) := by decide +kernel
theorem dX3_taughtNowBy_40 : decode cX3_taughtNowBy 40 = .ok (.iaload, 1) := by decide +kernel
theorem dX3_taughtNowBy_41 : decode cX3_taughtNowBy 41 = .ok (.invokestatic 72, 3) := by decide +kernel
theorem dX3_taughtNowBy_44 : decode cX3_taughtNowBy 44 = .ok (.ireturn, 1) := by decide +kernel
set_option maxRecDepth 20000 in
theorem ggX3_isTaughtNext_X3_taughtNowBy : GoodIn wsX3_isTaughtNext wsX3_taughtNowBy := goodIn_r _ [6, 7, 1, 8, 9, 10, 11, 12, 13, 14, 15, 16, 17, 18, 19, 20, 21, 22, 23, 24] (by decide +kernel) (by decide +kernel)
set_option maxRecDepth 20000 in
theorem gX3_isTaughtNext_X3_taughtNowBy : GoodIn wsX3_isTaughtNext (wsV RX3 78 RX3 yX3_taughtNowBy wsX3_taughtNowBy) := goodIn_app (goodIn_of _ (by decide +kernel)) ggX3_isTaughtNext_X3_taughtNowBy
theorem dX3_isTaughtNext_0 : decode cX3_isTaughtNext 0 = .ok (.iload_n 1, 1) := by decide +kernel
theorem dX3_isTaughtNext_1 : decode cX3_isTaughtNext 1 = .ok (.ifCond .le 27, 3) := by decide +kernel
theorem dX3_isTaughtNext_4 : decode cX3_isTaughtNext 4 = .ok (.aload_n 0, 1) := by decide +kernel
theorem dX3_isTaughtNext_5 : decode cX3_isTaughtNext 5 = .ok (.getfield 21, 3) := by decide +kernel
theorem dX3_isTaughtNext_8 : decode cX3_isTaughtNext 8 = .ok (.iload_n 1, 1) := by decide +kernel
theorem dX3_isTaughtNext_9 : decode cX3_isTaughtNext 9 = .ok (.baload, 1) := by decide +kernel
theorem dX3_isTaughtNext_10 : decode cX3_isTaughtNext 10 = .ok (.ifCond .ne 18, 3) := by decide +kernel
theorem dX3_isTaughtNext_13 : decode cX3_isTaughtNext 13 = .ok (.aload_n 0, 1) := by decide +kernel
theorem dX3_isTaughtNext_14 : decode cX3_isTaughtNext 14 = .ok (.iload_n 1, 1) := by decide +kernel
theorem dX3_isTaughtNext_15 : decode cX3_isTaughtNext 15 = .ok (.iconst 1, 1) := by decide +kernel
theorem dX3_isTaughtNext_16 : decode cX3_isTaughtNext 16 = .ok (.isub, 1) := by decide +kernel
theorem dX3_isTaughtNext_17 : decode cX3_isTaughtNext 17 = .ok (.invokevirtual 78, 3) := by decide +kernel
theorem dX3_isTaughtNext_20 : decode cX3_isTaughtNext 20 = .ok (.iconst (-1), 1) := by decide +kernel
theorem dX3_isTaughtNext_21 : decode cX3_isTaughtNext 21 = .ok (.if_icmp .eq 7, 3) := by decide +kernel
theorem dX3_isTaughtNext_24 : decode cX3_isTaughtNext 24 = .ok (.iconst 1, 1) := by decide +kernel
theorem dX3_isTaughtNext_25 : decode cX3_isTaughtNext 25 = .ok (.goto 4, 3) := by decide +kernel
theorem dX3_isTaughtNext_28 : decode cX3_isTaughtNext 28 = .ok (.iconst 0, 1) := by decide +kernel
theorem dX3_isTaughtNext_29 : decode cX3_isTaughtNext 29 = .ok (.ireturn, 1) := by decide +kernel
set_option maxRecDepth 20000 in
theorem ggX3_holdThursday_X3_top : GoodIn wsX3_holdThursday wsX3_top := goodIn_r _ [8, 9, 25, 26, 27, 28, 29, 30, 31, 32, 33, 34, 35] (by decide +kernel) (by decide +kernel)
set_option maxRecDepth 20000 in
theorem gX3_holdThursday_X3_top : GoodIn wsX3_holdThursday (wsV RX3 81 RX3 yX3_top wsX3_top) := goodIn_app (goodIn_of _ (by decide +kernel)) ggX3_holdThursday_X3_top
set_option maxRecDepth 20000 in
theorem ggX3_holdThursday_X3_isTaughtNext : GoodIn wsX3_holdThursday wsX3_isTaughtNext := goodIn_r _ [13, 14, 15, 16, 17, 7, 18, 1, 19, 20, 21, 22, 23, 24, 25, 26, 27, 28, 29, 30, 31, 32, 33, 34, 35] (by decide +kernel) (by decide +kernel)
set_option maxRecDepth 20000 in
theorem gX3_holdThursday_X3_isTaughtNext : GoodIn wsX3_holdThursday (wsV RX3 84 RX3 yX3_isTaughtNext wsX3_isTaughtNext) := goodIn_app (goodIn_of _ (by decide +kernel)) ggX3_holdThursday_X3_isTaughtNext
set_option maxRecDepth 20000 in
theorem ggX3_holdThursday_X3_taughtNowBy : GoodIn wsX3_holdThursday wsX3_taughtNowBy := goodIn_r _ [18, 1, 14, 19, 20, 21, 22, 23, 24, 25, 26, 27, 28, 29, 30, 31, 32, 33, 34, 35] (by decide +kernel) (by decide +kernel)
set_option maxRecDepth 20000 in
theorem gX3_holdThursday_X3_taughtNowBy : GoodIn wsX3_holdThursday (wsV RX3 78 RX3 yX3_taughtNowBy wsX3_taughtNowBy) := goodIn_app (goodIn_of _ (by decide +kernel)) ggX3_holdThursday_X3_taughtNowBy
theorem dX3_holdThursday_0 : decode cX3_holdThursday 0 = .ok (.iconst 0, 1) := by decide +kernel
theorem dX3_holdThursday_1 : decode cX3_holdThursday 1 = .ok (.istore_n 1, 1) := by decide +kernel
theorem dX3_holdThursday_2 : decode cX3_holdThursday 2 = .ok (.aload_n 0, 1) := by decide +kernel
theorem dX3_holdThursday_3 : decode cX3_holdThursday 3 = .ok (.invokevirtual 81, 3) := by decide +kernel
theorem dX3_holdThursday_6 : decode cX3_holdThursday 6 = .ok (.istore_n 2, 1) := by decide +kernel
theorem dX3_holdThursday_7 : decode cX3_holdThursday 7 = .ok (.iload_n 2, 1) := by decide +kernel
theorem dX3_holdThursday_8 : decode cX3_holdThursday 8 = .ok (.ifCond .le 33, 3) := by decide +kernel
theorem dX3_holdThursday_11 : decode cX3_holdThursday 11 = .ok (.aload_n 0, 1) := by decide +kernel
theorem dX3_holdThursday_12 : decode cX3_holdThursday 12 = .ok (.iload_n 2, 1) := by decide +kernel
theorem dX3_holdThursday_13 : decode cX3_holdThursday 13 = .ok (.invokevirtual 84, 3) := by decide +kernel
theorem dX3_holdThursday_16 : decode cX3_holdThursday 16 = .ok (.ifCond .eq 19, 3) := by decide +kernel
theorem dX3_holdThursday_19 : decode cX3_holdThursday 19 = .ok (.aload_n 0, 1) := by decide +kernel
theorem dX3_holdThursday_20 : decode cX3_holdThursday 20 = .ok (.getfield 18, 3) := by decide +kernel
theorem dX3_holdThursday_23 : decode cX3_holdThursday 23 = .ok (.iload_n 2, 1) := by decide +kernel
theorem dX3_holdThursday_24 : decode cX3_holdThursday 24 = .ok (.aload_n 0, 1) := by decide +kernel
theorem dX3_holdThursday_25 : decode cX3_holdThursday 25 = .ok (.iload_n 2, 1) := by decide +kernel
theorem dX3_holdThursday_26 : decode cX3_holdThursday 26 = .ok (.iconst 1, 1) := by decide +kernel
theorem dX3_holdThursday_27 : decode cX3_holdThursday 27 = .ok (.isub, 1) := by decide +kernel
theorem dX3_holdThursday_28 : decode cX3_holdThursday 28 = .ok (.invokevirtual 78, 3) := by decide +kernel
theorem dX3_holdThursday_31 : decode cX3_holdThursday 31 = .ok (.iastore, 1) := by decide +kernel
theorem dX3_holdThursday_32 : decode cX3_holdThursday 32 = .ok (.iinc 1 1, 3) := by decide +kernel
theorem dX3_holdThursday_35 : decode cX3_holdThursday 35 = .ok (.iinc 2 (-1), 3) := by decide +kernel
theorem dX3_holdThursday_38 : decode cX3_holdThursday 38 = .ok (.goto (-31), 3) := by decide +kernel
theorem dX3_holdThursday_41 : decode cX3_holdThursday 41 = .ok (.aload_n 0, 1) := by decide +kernel
theorem dX3_holdThursday_42 : decode cX3_holdThursday 42 = .ok (.dup, 1) := by decide +kernel
theorem dX3_holdThursday_43 : decode cX3_holdThursday 43 = .ok (.getfield 41, 3) := by decide +kernel
theorem dX3_holdThursday_46 : decode cX3_holdThursday 46 = .ok (.iconst 1, 1) := by decide +kernel
theorem dX3_holdThursday_47 : decode cX3_holdThursday 47 = .ok (.iadd, 1) := by decide +kernel
theorem dX3_holdThursday_48 : decode cX3_holdThursday 48 = .ok (.putfield 41, 3) := by decide +kernel
theorem dX3_holdThursday_51 : decode cX3_holdThursday 51 = .ok (.aload_n 0, 1) := by decide +kernel
theorem dX3_holdThursday_52 : decode cX3_holdThursday 52 = .ok (.dup, 1) := by decide +kernel
theorem dX3_holdThursday_53 : decode cX3_holdThursday 53 = .ok (.getfield 44, 3) := by decide +kernel
theorem dX3_holdThursday_56 : decode cX3_holdThursday 56 = .ok (.iload_n 1, 1) := by decide +kernel
theorem dX3_holdThursday_57 : decode cX3_holdThursday 57 = .ok (.iadd, 1) := by decide +kernel
theorem dX3_holdThursday_58 : decode cX3_holdThursday 58 = .ok (.putfield 44, 3) := by decide +kernel
theorem dX3_holdThursday_61 : decode cX3_holdThursday 61 = .ok (.iload_n 1, 1) := by decide +kernel
theorem dX3_holdThursday_62 : decode cX3_holdThursday 62 = .ok (.ireturn, 1) := by decide +kernel
set_option maxRecDepth 20000 in
theorem ggX3_beginAnew_X0_next : GoodIn wsX3_beginAnew wsX0_next := goodIn_r _ [8, 9, 10, 11, 12, 13, 25] (by decide +kernel) (by decide +kernel)
set_option maxRecDepth 20000 in
theorem gX3_beginAnew_X0_next : GoodIn wsX3_beginAnew (wsV RX3 88 RX0 yX0_next wsX0_next) := goodIn_app (goodIn_of _ (by decide +kernel)) ggX3_beginAnew_X0_next
theorem dX3_beginAnew_0 : decode cX3_beginAnew 0 = .ok (.aload_n 0, 1) := by decide +kernel
theorem dX3_beginAnew_1 : decode cX3_beginAnew 1 = .ok (.getfield 18, 3) := by decide +kernel
theorem dX3_beginAnew_4 : decode cX3_beginAnew 4 = .ok (.iconst 0, 1) := by decide +kernel
theorem dX3_beginAnew_5 : decode cX3_beginAnew 5 = .ok (.aload_n 1, 1) := by decide +kernel
theorem dX3_beginAnew_6 : decode cX3_beginAnew 6 = .ok (.bipush 12, 2) := by decide +kernel
theorem dX3_beginAnew_8 : decode cX3_beginAnew 8 = .ok (.invokevirtual 88, 3) := by decide +kernel
theorem dX3_beginAnew_11 : decode cX3_beginAnew 11 = .ok (.iastore, 1) := by decide +kernel
theorem dX3_beginAnew_12 : decode cX3_beginAnew 12 = .ok (.aload_n 1, 1) := by decide +kernel
theorem dX3_beginAnew_13 : decode cX3_beginAnew 13 = .ok (.aload_n 0, 1) := by decide +kernel
theorem dX3_beginAnew_14 : decode cX3_beginAnew 14 = .ok (.getfield 34, 3) := by decide +kernel
theorem dX3_beginAnew_17 : decode cX3_beginAnew 17 = .ok (.iconst 1, 1) := by decide +kernel
theorem dX3_beginAnew_18 : decode cX3_beginAnew 18 = .ok (.iadd, 1) := by decide +kernel
theorem dX3_beginAnew_19 : decode cX3_beginAnew 19 = .ok (.invokevirtual 88, 3) := by decide +kernel
theorem dX3_beginAnew_22 : decode cX3_beginAnew 22 = .ok (.istore_n 2, 1) := by decide +kernel
theorem dX3_beginAnew_23 : decode cX3_beginAnew 23 = .ok (.iconst 0, 1) := by decide +kernel
theorem dX3_beginAnew_24 : decode cX3_beginAnew 24 = .ok (.istore_n 3, 1) := by decide +kernel
theorem dX3_beginAnew_25 : decode cX3_beginAnew 25 = .ok (.iload_n 3, 1) := by decide +kernel
theorem dX3_beginAnew_26 : decode cX3_beginAnew 26 = .ok (.aload_n 0, 1) := by decide +kernel
theorem dX3_beginAnew_27 : decode cX3_beginAnew 27 = .ok (.getfield 34, 3) := by decide +kernel
theorem dX3_beginAnew_30 : decode cX3_beginAnew 30 = .ok (.if_icmp .ge 25, 3) := by decide +kernel
theorem dX3_beginAnew_33 : decode cX3_beginAnew 33 = .ok (.aload_n 0, 1) := by decide +kernel
theorem dX3_beginAnew_34 : decode cX3_beginAnew 34 = .ok (.getfield 21, 3) := by decide +kernel
theorem dX3_beginAnew_37 : decode cX3_beginAnew 37 = .ok (.iload_n 3, 1) := by decide +kernel
theorem dX3_beginAnew_38 : decode cX3_beginAnew 38 = .ok (.iload_n 3, 1) := by decide +kernel
theorem dX3_beginAnew_39 : decode cX3_beginAnew 39 = .ok (.iload_n 2, 1) := by decide +kernel
theorem dX3_beginAnew_40 : decode cX3_beginAnew 40 = .ok (.if_icmp .ne 7, 3) := by decide +kernel
theorem dX3_beginAnew_43 : decode cX3_beginAnew 43 = .ok (.iconst 1, 1) := by decide +kernel
theorem dX3_beginAnew_44 : decode cX3_beginAnew 44 = .ok (.goto 4, 3) := by decide +kernel
theorem dX3_beginAnew_47 : decode cX3_beginAnew 47 = .ok (.iconst 0, 1) := by decide +kernel
theorem dX3_beginAnew_48 : decode cX3_beginAnew 48 = .ok (.bastore, 1) := by decide +kernel
theorem dX3_beginAnew_49 : decode cX3_beginAnew 49 = .ok (.iinc 3 1, 3) := by decide +kernel
theorem dX3_beginAnew_52 : decode cX3_beginAnew 52 = .ok (.goto (-27), 3) := by decide +kernel
theorem dX3_beginAnew_55 : decode cX3_beginAnew 55 = .ok (.return_, 1) := by decide +kernel
set_option maxRecDepth 20000 in
theorem ggX3_atTop_X3_top : GoodIn wsX3_atTop wsX3_top := goodIn_r _ [7, 8, 13, 14, 15, 16, 17, 18, 19, 20, 21, 22, 23] (by decide +kernel) (by decide +kernel)
set_option maxRecDepth 20000 in
theorem gX3_atTop_X3_top : GoodIn wsX3_atTop (wsV RX3 81 RX3 yX3_top wsX3_top) := goodIn_app (goodIn_of _ (by decide +kernel)) ggX3_atTop_X3_top
set_option maxRecDepth 20000 in
theorem ggX3_atTop_X1_passesOn : GoodIn wsX3_atTop wsX1_passesOn := goodIn_r _ [12] (by decide +kernel) (by decide +kernel)
set_option maxRecDepth 20000 in
theorem gX3_atTop_X1_passesOn : GoodIn wsX3_atTop (va_wsS RX3 72 yX1_passesOn wsX1_passesOn) := goodIn_app (goodIn_of _ (by decide +kernel)) ggX3_atTop_X1_passesOn
theorem dX3_atTop_0 : decode cX3_atTop 0 = .ok (.iload_n 2, 1) := by decide +kernel
theorem dX3_atTop_1 : decode cX3_atTop 1 = .ok (.istore 4, 2) := by decide +kernel
theorem dX3_atTop_3 : decode cX3_atTop 3 = .ok (.iload_n 1, 1) := by decide +kernel
theorem dX3_atTop_4 : decode cX3_atTop 4 = .ok (.istore 5, 2) := by decide +kernel
theorem dX3_atTop_6 : decode cX3_atTop 6 = .ok (.iload 5, 2) := by decide +kernel
theorem dX3_atTop_8 : decode cX3_atTop 8 = .ok (.aload_n 0, 1) := by decide +kernel
theorem dX3_atTop_9 : decode cX3_atTop 9 = .ok (.invokevirtual 81, 3) := by decide +kernel
theorem dX3_atTop_12 : decode cX3_atTop 12 = .ok (.if_icmp .ge 40, 3) := by decide +kernel
theorem dX3_atTop_15 : decode cX3_atTop 15 = .ok (.aload_n 0, 1) := by decide +kernel
theorem dX3_atTop_16 : decode cX3_atTop 16 = .ok (.getfield 11, 3) := by decide +kernel
theorem dX3_atTop_19 : decode cX3_atTop 19 = .ok (.iload 5, 2) := by decide +kernel
theorem dX3_atTop_21 : decode cX3_atTop 21 = .ok (.iaload, 1) := by decide +kernel
theorem dX3_atTop_22 : decode cX3_atTop 22 = .ok (.iload 5, 2) := by decide +kernel
theorem dX3_atTop_24 : decode cX3_atTop 24 = .ok (.iload_n 3, 1) := by decide +kernel
theorem dX3_atTop_25 : decode cX3_atTop 25 = .ok (.if_icmp .ne 7, 3) := by decide +kernel
theorem dX3_atTop_28 : decode cX3_atTop 28 = .ok (.iconst 0, 1) := by decide +kernel
theorem dX3_atTop_29 : decode cX3_atTop 29 = .ok (.goto 10, 3) := by decide +kernel
theorem dX3_atTop_32 : decode cX3_atTop 32 = .ok (.aload_n 0, 1) := by decide +kernel
theorem dX3_atTop_33 : decode cX3_atTop 33 = .ok (.getfield 15, 3) := by decide +kernel
theorem dX3_atTop_36 : decode cX3_atTop 36 = .ok (.iload 5, 2) := by decide +kernel
theorem dX3_atTop_38 : decode cX3_atTop 38 = .ok (.iaload, 1) := by decide +kernel
theorem dX3_atTop_39 : decode cX3_atTop 39 = .ok (.iload 4, 2) := by decide +kernel
theorem dX3_atTop_41 : decode cX3_atTop 41 = .ok (.invokestatic 72, 3) := by decide +kernel
theorem dX3_atTop_44 : decode cX3_atTop 44 = .ok (.istore 4, 2) := by decide +kernel
theorem dX3_atTop_46 : decode cX3_atTop 46 = .ok (.iinc 5 1, 3) := by decide +kernel
theorem dX3_atTop_49 : decode cX3_atTop 49 = .ok (.goto (-43), 3) := by decide +kernel
theorem dX3_atTop_52 : decode cX3_atTop 52 = .ok (.iload 4, 2) := by decide +kernel
theorem dX3_atTop_54 : decode cX3_atTop 54 = .ok (.ireturn, 1) := by decide +kernel
set_option maxRecDepth 20000 in
theorem ggX3_sourcesOf_X3_atTop : GoodIn wsX3_sourcesOf wsX3_atTop := goodIn_r _ [5, 6, 7, 8, 9, 10, 4, 11, 12, 13, 14, 15, 16, 17, 18, 19, 20, 21, 22, 23, 24, 25, 26, 27] (by decide +kernel) (by decide +kernel)
set_option maxRecDepth 20000 in
theorem gX3_sourcesOf_X3_atTop : GoodIn wsX3_sourcesOf (wsV RX3 93 RX3 yX3_atTop wsX3_atTop) := goodIn_app (goodIn_of _ (by decide +kernel)) ggX3_sourcesOf_X3_atTop
theorem dX3_sourcesOf_0 : decode cX3_sourcesOf 0 = .ok (.iconst 0, 1) := by decide +kernel
theorem dX3_sourcesOf_1 : decode cX3_sourcesOf 1 = .ok (.istore_n 3, 1) := by decide +kernel
theorem dX3_sourcesOf_2 : decode cX3_sourcesOf 2 = .ok (.iconst 0, 1) := by decide +kernel
theorem dX3_sourcesOf_3 : decode cX3_sourcesOf 3 = .ok (.istore 4, 2) := by decide +kernel
theorem dX3_sourcesOf_5 : decode cX3_sourcesOf 5 = .ok (.iload 4, 2) := by decide +kernel
theorem dX3_sourcesOf_7 : decode cX3_sourcesOf 7 = .ok (.bipush 12, 2) := by decide +kernel
theorem dX3_sourcesOf_9 : decode cX3_sourcesOf 9 = .ok (.if_icmp .ge 28, 3) := by decide +kernel
theorem dX3_sourcesOf_12 : decode cX3_sourcesOf 12 = .ok (.aload_n 0, 1) := by decide +kernel
theorem dX3_sourcesOf_13 : decode cX3_sourcesOf 13 = .ok (.iload_n 1, 1) := by decide +kernel
theorem dX3_sourcesOf_14 : decode cX3_sourcesOf 14 = .ok (.iload 4, 2) := by decide +kernel
theorem dX3_sourcesOf_16 : decode cX3_sourcesOf 16 = .ok (.iconst (-1), 1) := by decide +kernel
theorem dX3_sourcesOf_17 : decode cX3_sourcesOf 17 = .ok (.invokevirtual 93, 3) := by decide +kernel
theorem dX3_sourcesOf_20 : decode cX3_sourcesOf 20 = .ok (.iload_n 2, 1) := by decide +kernel
theorem dX3_sourcesOf_21 : decode cX3_sourcesOf 21 = .ok (.if_icmp .ne 10, 3) := by decide +kernel
theorem dX3_sourcesOf_24 : decode cX3_sourcesOf 24 = .ok (.iload_n 3, 1) := by decide +kernel
theorem dX3_sourcesOf_25 : decode cX3_sourcesOf 25 = .ok (.iconst 1, 1) := by decide +kernel
theorem dX3_sourcesOf_26 : decode cX3_sourcesOf 26 = .ok (.iload 4, 2) := by decide +kernel
theorem dX3_sourcesOf_28 : decode cX3_sourcesOf 28 = .ok (.ishl, 1) := by decide +kernel
theorem dX3_sourcesOf_29 : decode cX3_sourcesOf 29 = .ok (.ior, 1) := by decide +kernel
theorem dX3_sourcesOf_30 : decode cX3_sourcesOf 30 = .ok (.istore_n 3, 1) := by decide +kernel
theorem dX3_sourcesOf_31 : decode cX3_sourcesOf 31 = .ok (.iinc 4 1, 3) := by decide +kernel
theorem dX3_sourcesOf_34 : decode cX3_sourcesOf 34 = .ok (.goto (-29), 3) := by decide +kernel
theorem dX3_sourcesOf_37 : decode cX3_sourcesOf 37 = .ok (.iload_n 3, 1) := by decide +kernel
theorem dX3_sourcesOf_38 : decode cX3_sourcesOf 38 = .ok (.ireturn, 1) := by decide +kernel
set_option maxRecDepth 20000 in
theorem ggX3_unchangedAtTop_X3_atTop : GoodIn wsX3_unchangedAtTop wsX3_atTop := goodIn_r _ [5, 6, 7, 8, 9, 10, 4, 11, 12, 13, 14, 15, 16, 17, 18, 19, 20, 21, 22, 23, 24, 25, 26, 27] (by decide +kernel) (by decide +kernel)
set_option maxRecDepth 20000 in
theorem gX3_unchangedAtTop_X3_atTop : GoodIn wsX3_unchangedAtTop (wsV RX3 93 RX3 yX3_atTop wsX3_atTop) := goodIn_app (goodIn_of _ (by decide +kernel)) ggX3_unchangedAtTop_X3_atTop
theorem dX3_unchangedAtTop_0 : decode cX3_unchangedAtTop 0 = .ok (.iconst 0, 1) := by decide +kernel
theorem dX3_unchangedAtTop_1 : decode cX3_unchangedAtTop 1 = .ok (.istore_n 2, 1) := by decide +kernel
theorem dX3_unchangedAtTop_2 : decode cX3_unchangedAtTop 2 = .ok (.iconst 0, 1) := by decide +kernel
theorem dX3_unchangedAtTop_3 : decode cX3_unchangedAtTop 3 = .ok (.istore_n 3, 1) := by decide +kernel
theorem dX3_unchangedAtTop_4 : decode cX3_unchangedAtTop 4 = .ok (.iload_n 3, 1) := by decide +kernel
theorem dX3_unchangedAtTop_5 : decode cX3_unchangedAtTop 5 = .ok (.bipush 12, 2) := by decide +kernel
theorem dX3_unchangedAtTop_7 : decode cX3_unchangedAtTop 7 = .ok (.if_icmp .ge 23, 3) := by decide +kernel
theorem dX3_unchangedAtTop_10 : decode cX3_unchangedAtTop 10 = .ok (.aload_n 0, 1) := by decide +kernel
theorem dX3_unchangedAtTop_11 : decode cX3_unchangedAtTop 11 = .ok (.iconst 0, 1) := by decide +kernel
theorem dX3_unchangedAtTop_12 : decode cX3_unchangedAtTop 12 = .ok (.iload_n 3, 1) := by decide +kernel
theorem dX3_unchangedAtTop_13 : decode cX3_unchangedAtTop 13 = .ok (.iload_n 1, 1) := by decide +kernel
theorem dX3_unchangedAtTop_14 : decode cX3_unchangedAtTop 14 = .ok (.invokevirtual 93, 3) := by decide +kernel
theorem dX3_unchangedAtTop_17 : decode cX3_unchangedAtTop 17 = .ok (.iload_n 3, 1) := by decide +kernel
theorem dX3_unchangedAtTop_18 : decode cX3_unchangedAtTop 18 = .ok (.if_icmp .ne 6, 3) := by decide +kernel
theorem dX3_unchangedAtTop_21 : decode cX3_unchangedAtTop 21 = .ok (.iinc 2 1, 3) := by decide +kernel
theorem dX3_unchangedAtTop_24 : decode cX3_unchangedAtTop 24 = .ok (.iinc 3 1, 3) := by decide +kernel
theorem dX3_unchangedAtTop_27 : decode cX3_unchangedAtTop 27 = .ok (.goto (-23), 3) := by decide +kernel
theorem dX3_unchangedAtTop_30 : decode cX3_unchangedAtTop 30 = .ok (.iload_n 2, 1) := by decide +kernel
theorem dX3_unchangedAtTop_31 : decode cX3_unchangedAtTop 31 = .ok (.ireturn, 1) := by decide +kernel
set_option maxRecDepth 20000 in
theorem ggX3_bestToCure_X3_unchangedAtTop : GoodIn wsX3_bestToCure wsX3_unchangedAtTop := goodIn_r _ [6, 7, 8, 9, 5, 10, 11, 12, 13, 14, 15, 16, 1, 17, 18, 19, 20, 21, 22, 23, 24, 25, 26, 27, 28, 29, 30, 31] (by decide +kernel) (by decide +kernel)
set_option maxRecDepth 20000 in
theorem gX3_bestToCure_X3_unchangedAtTop : GoodIn wsX3_bestToCure (wsV RX3 96 RX3 yX3_unchangedAtTop wsX3_unchangedAtTop) := goodIn_app (goodIn_of _ (by decide +kernel)) ggX3_bestToCure_X3_unchangedAtTop
theorem dX3_bestToCure_0 : decode cX3_bestToCure 0 = .ok (.iconst (-1), 1) := by decide +kernel
theorem dX3_bestToCure_1 : decode cX3_bestToCure 1 = .ok (.istore_n 1, 1) := by decide +kernel
theorem dX3_bestToCure_2 : decode cX3_bestToCure 2 = .ok (.aload_n 0, 1) := by decide +kernel
theorem dX3_bestToCure_3 : decode cX3_bestToCure 3 = .ok (.iconst (-1), 1) := by decide +kernel
theorem dX3_bestToCure_4 : decode cX3_bestToCure 4 = .ok (.invokevirtual 96, 3) := by decide +kernel
theorem dX3_bestToCure_7 : decode cX3_bestToCure 7 = .ok (.istore_n 2, 1) := by decide +kernel
theorem dX3_bestToCure_8 : decode cX3_bestToCure 8 = .ok (.iconst 0, 1) := by decide +kernel
theorem dX3_bestToCure_9 : decode cX3_bestToCure 9 = .ok (.istore_n 3, 1) := by decide +kernel
theorem dX3_bestToCure_10 : decode cX3_bestToCure 10 = .ok (.iload_n 3, 1) := by decide +kernel
theorem dX3_bestToCure_11 : decode cX3_bestToCure 11 = .ok (.aload_n 0, 1) := by decide +kernel
theorem dX3_bestToCure_12 : decode cX3_bestToCure 12 = .ok (.getfield 34, 3) := by decide +kernel
theorem dX3_bestToCure_15 : decode cX3_bestToCure 15 = .ok (.if_icmp .ge 27, 3) := by decide +kernel
theorem dX3_bestToCure_18 : decode cX3_bestToCure 18 = .ok (.aload_n 0, 1) := by decide +kernel
theorem dX3_bestToCure_19 : decode cX3_bestToCure 19 = .ok (.iload_n 3, 1) := by decide +kernel
theorem dX3_bestToCure_20 : decode cX3_bestToCure 20 = .ok (.invokevirtual 96, 3) := by decide +kernel
theorem dX3_bestToCure_23 : decode cX3_bestToCure 23 = .ok (.istore 4, 2) := by decide +kernel
theorem dX3_bestToCure_25 : decode cX3_bestToCure 25 = .ok (.iload 4, 2) := by decide +kernel
theorem dX3_bestToCure_27 : decode cX3_bestToCure 27 = .ok (.iload_n 2, 1) := by decide +kernel
theorem dX3_bestToCure_28 : decode cX3_bestToCure 28 = .ok (.if_icmp .le 8, 3) := by decide +kernel
theorem dX3_bestToCure_31 : decode cX3_bestToCure 31 = .ok (.iload 4, 2) := by decide +kernel
theorem dX3_bestToCure_33 : decode cX3_bestToCure 33 = .ok (.istore_n 2, 1) := by decide +kernel
theorem dX3_bestToCure_34 : decode cX3_bestToCure 34 = .ok (.iload_n 3, 1) := by decide +kernel
theorem dX3_bestToCure_35 : decode cX3_bestToCure 35 = .ok (.istore_n 1, 1) := by decide +kernel
theorem dX3_bestToCure_36 : decode cX3_bestToCure 36 = .ok (.iinc 3 1, 3) := by decide +kernel
theorem dX3_bestToCure_39 : decode cX3_bestToCure 39 = .ok (.goto (-29), 3) := by decide +kernel
theorem dX3_bestToCure_42 : decode cX3_bestToCure 42 = .ok (.iload_n 1, 1) := by decide +kernel
theorem dX3_bestToCure_43 : decode cX3_bestToCure 43 = .ok (.ireturn, 1) := by decide +kernel
set_option maxRecDepth 20000 in
theorem ggX3_thursdaysToTop_X3_isNone : GoodIn wsX3_thursdaysToTop wsX3_isNone := goodIn_r _ [7, 8, 13, 14, 15, 16, 17, 18, 19, 20, 21, 22, 23] (by decide +kernel) (by decide +kernel)
set_option maxRecDepth 20000 in
theorem gX3_thursdaysToTop_X3_isNone : GoodIn wsX3_thursdaysToTop (wsV RX3 99 RX3 yX3_isNone wsX3_isNone) := goodIn_app (goodIn_of _ (by decide +kernel)) ggX3_thursdaysToTop_X3_isNone
set_option maxRecDepth 20000 in
theorem ggX3_thursdaysToTop_X3_top : GoodIn wsX3_thursdaysToTop wsX3_top := goodIn_r _ [12, 8, 13, 14, 15, 16, 17, 18, 19, 20, 21, 22, 23] (by decide +kernel) (by decide +kernel)
set_option maxRecDepth 20000 in
theorem gX3_thursdaysToTop_X3_top : GoodIn wsX3_thursdaysToTop (wsV RX3 81 RX3 yX3_top wsX3_top) := goodIn_app (goodIn_of _ (by decide +kernel)) ggX3_thursdaysToTop_X3_top
theorem dX3_thursdaysToTop_0 : decode cX3_thursdaysToTop 0 = .ok (.aload_n 0, 1) := by decide +kernel
theorem dX3_thursdaysToTop_1 : decode cX3_thursdaysToTop 1 = .ok (.invokevirtual 99, 3) := by decide +kernel
theorem dX3_thursdaysToTop_4 : decode cX3_thursdaysToTop 4 = .ok (.ifCond .eq 5, 3) := by decide +kernel
theorem dX3_thursdaysToTop_7 : decode cX3_thursdaysToTop 7 = .ok (.iconst (-1), 1) := by decide +kernel
theorem dX3_thursdaysToTop_8 : decode cX3_thursdaysToTop 8 = .ok (.ireturn, 1) := by decide +kernel
theorem dX3_thursdaysToTop_9 : decode cX3_thursdaysToTop 9 = .ok (.aload_n 0, 1) := by decide +kernel
theorem dX3_thursdaysToTop_10 : decode cX3_thursdaysToTop 10 = .ok (.getfield 18, 3) := by decide +kernel
theorem dX3_thursdaysToTop_13 : decode cX3_thursdaysToTop 13 = .ok (.aload_n 0, 1) := by decide +kernel
theorem dX3_thursdaysToTop_14 : decode cX3_thursdaysToTop 14 = .ok (.invokevirtual 81, 3) := by decide +kernel
theorem dX3_thursdaysToTop_17 : decode cX3_thursdaysToTop 17 = .ok (.iaload, 1) := by decide +kernel
theorem dX3_thursdaysToTop_18 : decode cX3_thursdaysToTop 18 = .ok (.iconst (-1), 1) := by decide +kernel
theorem dX3_thursdaysToTop_19 : decode cX3_thursdaysToTop 19 = .ok (.if_icmp .eq 5, 3) := by decide +kernel
theorem dX3_thursdaysToTop_22 : decode cX3_thursdaysToTop 22 = .ok (.iconst 0, 1) := by decide +kernel
theorem dX3_thursdaysToTop_23 : decode cX3_thursdaysToTop 23 = .ok (.ireturn, 1) := by decide +kernel
theorem dX3_thursdaysToTop_24 : decode cX3_thursdaysToTop 24 = .ok (.aload_n 0, 1) := by decide +kernel
theorem dX3_thursdaysToTop_25 : decode cX3_thursdaysToTop 25 = .ok (.invokevirtual 81, 3) := by decide +kernel
theorem dX3_thursdaysToTop_28 : decode cX3_thursdaysToTop 28 = .ok (.istore_n 1, 1) := by decide +kernel
theorem dX3_thursdaysToTop_29 : decode cX3_thursdaysToTop 29 = .ok (.iload_n 1, 1) := by decide +kernel
theorem dX3_thursdaysToTop_30 : decode cX3_thursdaysToTop 30 = .ok (.ifCond .lt 37, 3) := by decide +kernel
theorem dX3_thursdaysToTop_33 : decode cX3_thursdaysToTop 33 = .ok (.aload_n 0, 1) := by decide +kernel
theorem dX3_thursdaysToTop_34 : decode cX3_thursdaysToTop 34 = .ok (.getfield 21, 3) := by decide +kernel
theorem dX3_thursdaysToTop_37 : decode cX3_thursdaysToTop 37 = .ok (.iload_n 1, 1) := by decide +kernel
theorem dX3_thursdaysToTop_38 : decode cX3_thursdaysToTop 38 = .ok (.baload, 1) := by decide +kernel
theorem dX3_thursdaysToTop_39 : decode cX3_thursdaysToTop 39 = .ok (.ifCond .eq 5, 3) := by decide +kernel
theorem dX3_thursdaysToTop_42 : decode cX3_thursdaysToTop 42 = .ok (.iconst (-1), 1) := by decide +kernel
theorem dX3_thursdaysToTop_43 : decode cX3_thursdaysToTop 43 = .ok (.ireturn, 1) := by decide +kernel
theorem dX3_thursdaysToTop_44 : decode cX3_thursdaysToTop 44 = .ok (.aload_n 0, 1) := by decide +kernel
theorem dX3_thursdaysToTop_45 : decode cX3_thursdaysToTop 45 = .ok (.getfield 18, 3) := by decide +kernel
theorem dX3_thursdaysToTop_48 : decode cX3_thursdaysToTop 48 = .ok (.iload_n 1, 1) := by decide +kernel
theorem dX3_thursdaysToTop_49 : decode cX3_thursdaysToTop 49 = .ok (.iaload, 1) := by decide +kernel
theorem dX3_thursdaysToTop_50 : decode cX3_thursdaysToTop 50 = .ok (.iconst (-1), 1) := by decide +kernel
theorem dX3_thursdaysToTop_51 : decode cX3_thursdaysToTop 51 = .ok (.if_icmp .eq 10, 3) := by decide +kernel
theorem dX3_thursdaysToTop_54 : decode cX3_thursdaysToTop 54 = .ok (.aload_n 0, 1) := by decide +kernel
theorem dX3_thursdaysToTop_55 : decode cX3_thursdaysToTop 55 = .ok (.invokevirtual 81, 3) := by decide +kernel
theorem dX3_thursdaysToTop_58 : decode cX3_thursdaysToTop 58 = .ok (.iload_n 1, 1) := by decide +kernel
theorem dX3_thursdaysToTop_59 : decode cX3_thursdaysToTop 59 = .ok (.isub, 1) := by decide +kernel
theorem dX3_thursdaysToTop_60 : decode cX3_thursdaysToTop 60 = .ok (.ireturn, 1) := by decide +kernel
theorem dX3_thursdaysToTop_61 : decode cX3_thursdaysToTop 61 = .ok (.iinc 1 (-1), 3) := by decide +kernel
theorem dX3_thursdaysToTop_64 : decode cX3_thursdaysToTop 64 = .ok (.goto (-35), 3) := by decide +kernel
theorem dX3_thursdaysToTop_67 : decode cX3_thursdaysToTop 67 = .ok (.iconst (-1), 1) := by decide +kernel
theorem dX3_thursdaysToTop_68 : decode cX3_thursdaysToTop 68 = .ok (.ireturn, 1) := by decide +kernel
theorem dX3_isHeardFull_0 : decode cX3_isHeardFull 0 = .ok (.aload_n 0, 1) := by decide +kernel
theorem dX3_isHeardFull_1 : decode cX3_isHeardFull 1 = .ok (.getfield 38, 3) := by decide +kernel
theorem dX3_isHeardFull_4 : decode cX3_isHeardFull 4 = .ok (.bipush 8, 2) := by decide +kernel
theorem dX3_isHeardFull_6 : decode cX3_isHeardFull 6 = .ok (.if_icmp .lt 7, 3) := by decide +kernel
theorem dX3_isHeardFull_9 : decode cX3_isHeardFull 9 = .ok (.iconst 1, 1) := by decide +kernel
theorem dX3_isHeardFull_10 : decode cX3_isHeardFull 10 = .ok (.goto 4, 3) := by decide +kernel
theorem dX3_isHeardFull_13 : decode cX3_isHeardFull 13 = .ok (.iconst 0, 1) := by decide +kernel
theorem dX3_isHeardFull_14 : decode cX3_isHeardFull 14 = .ok (.ireturn, 1) := by decide +kernel
set_option maxRecDepth 20000 in
theorem ggX3_addHeard_X3_isHeardFull : GoodIn wsX3_addHeard wsX3_isHeardFull := goodIn_r _ [9, 2, 10, 11, 12, 13, 14, 15, 16, 17, 18, 19, 20] (by decide +kernel) (by decide +kernel)
set_option maxRecDepth 20000 in
theorem gX3_addHeard_X3_isHeardFull : GoodIn wsX3_addHeard (wsV RX3 103 RX3 yX3_isHeardFull wsX3_isHeardFull) := goodIn_app (goodIn_of _ (by decide +kernel)) ggX3_addHeard_X3_isHeardFull
theorem dX3_addHeard_0 : decode cX3_addHeard 0 = .ok (.aload_n 0, 1) := by decide +kernel
theorem dX3_addHeard_1 : decode cX3_addHeard 1 = .ok (.invokevirtual 103, 3) := by decide +kernel
theorem dX3_addHeard_4 : decode cX3_addHeard 4 = .ok (.ifCond .ne 43, 3) := by decide +kernel
theorem dX3_addHeard_7 : decode cX3_addHeard 7 = .ok (.aload_n 0, 1) := by decide +kernel
theorem dX3_addHeard_8 : decode cX3_addHeard 8 = .ok (.getfield 25, 3) := by decide +kernel
theorem dX3_addHeard_11 : decode cX3_addHeard 11 = .ok (.aload_n 0, 1) := by decide +kernel
theorem dX3_addHeard_12 : decode cX3_addHeard 12 = .ok (.getfield 38, 3) := by decide +kernel
theorem dX3_addHeard_15 : decode cX3_addHeard 15 = .ok (.iload_n 1, 1) := by decide +kernel
theorem dX3_addHeard_16 : decode cX3_addHeard 16 = .ok (.iastore, 1) := by decide +kernel
theorem dX3_addHeard_17 : decode cX3_addHeard 17 = .ok (.aload_n 0, 1) := by decide +kernel
theorem dX3_addHeard_18 : decode cX3_addHeard 18 = .ok (.getfield 28, 3) := by decide +kernel
theorem dX3_addHeard_21 : decode cX3_addHeard 21 = .ok (.aload_n 0, 1) := by decide +kernel
theorem dX3_addHeard_22 : decode cX3_addHeard 22 = .ok (.getfield 38, 3) := by decide +kernel
theorem dX3_addHeard_25 : decode cX3_addHeard 25 = .ok (.iload_n 2, 1) := by decide +kernel
theorem dX3_addHeard_26 : decode cX3_addHeard 26 = .ok (.iastore, 1) := by decide +kernel
theorem dX3_addHeard_27 : decode cX3_addHeard 27 = .ok (.aload_n 0, 1) := by decide +kernel
theorem dX3_addHeard_28 : decode cX3_addHeard 28 = .ok (.getfield 31, 3) := by decide +kernel
theorem dX3_addHeard_31 : decode cX3_addHeard 31 = .ok (.aload_n 0, 1) := by decide +kernel
theorem dX3_addHeard_32 : decode cX3_addHeard 32 = .ok (.getfield 38, 3) := by decide +kernel
theorem dX3_addHeard_35 : decode cX3_addHeard 35 = .ok (.iload_n 3, 1) := by decide +kernel
theorem dX3_addHeard_36 : decode cX3_addHeard 36 = .ok (.iastore, 1) := by decide +kernel
theorem dX3_addHeard_37 : decode cX3_addHeard 37 = .ok (.aload_n 0, 1) := by decide +kernel
theorem dX3_addHeard_38 : decode cX3_addHeard 38 = .ok (.dup, 1) := by decide +kernel
theorem dX3_addHeard_39 : decode cX3_addHeard 39 = .ok (.getfield 38, 3) := by decide +kernel
theorem dX3_addHeard_42 : decode cX3_addHeard 42 = .ok (.iconst 1, 1) := by decide +kernel
theorem dX3_addHeard_43 : decode cX3_addHeard 43 = .ok (.iadd, 1) := by decide +kernel
theorem dX3_addHeard_44 : decode cX3_addHeard 44 = .ok (.putfield 38, 3) := by decide +kernel
theorem dX3_addHeard_47 : decode cX3_addHeard 47 = .ok (.return_, 1) := by decide +kernel
set_option maxRecDepth 20000 in
theorem ggX3_possibleSlips_X3_explainsHeard : GoodIn wsX3_possibleSlips wsX3_explainsHeard := goodIn_r _ [5, 6, 7, 8, 9, 10, 11, 12, 13, 14, 15, 16, 17, 18, 19, 20, 21, 22, 23, 24, 25] (by decide +kernel) (by decide +kernel)
set_option maxRecDepth 20000 in
theorem gX3_possibleSlips_X3_explainsHeard : GoodIn wsX3_possibleSlips (wsV RX3 106 RX3 yX3_explainsHeard wsX3_explainsHeard) := goodIn_app (goodIn_of _ (by decide +kernel)) ggX3_possibleSlips_X3_explainsHeard
theorem dX3_possibleSlips_0 : decode cX3_possibleSlips 0 = .ok (.iconst 0, 1) := by decide +kernel
theorem dX3_possibleSlips_1 : decode cX3_possibleSlips 1 = .ok (.istore_n 2, 1) := by decide +kernel
theorem dX3_possibleSlips_2 : decode cX3_possibleSlips 2 = .ok (.iconst 0, 1) := by decide +kernel
theorem dX3_possibleSlips_3 : decode cX3_possibleSlips 3 = .ok (.istore_n 3, 1) := by decide +kernel
theorem dX3_possibleSlips_4 : decode cX3_possibleSlips 4 = .ok (.iload_n 3, 1) := by decide +kernel
theorem dX3_possibleSlips_5 : decode cX3_possibleSlips 5 = .ok (.bipush 10, 2) := by decide +kernel
theorem dX3_possibleSlips_7 : decode cX3_possibleSlips 7 = .ok (.if_icmp .ge 24, 3) := by decide +kernel
theorem dX3_possibleSlips_10 : decode cX3_possibleSlips 10 = .ok (.aload_n 0, 1) := by decide +kernel
theorem dX3_possibleSlips_11 : decode cX3_possibleSlips 11 = .ok (.iload_n 1, 1) := by decide +kernel
theorem dX3_possibleSlips_12 : decode cX3_possibleSlips 12 = .ok (.iload_n 3, 1) := by decide +kernel
theorem dX3_possibleSlips_13 : decode cX3_possibleSlips 13 = .ok (.invokevirtual 106, 3) := by decide +kernel
theorem dX3_possibleSlips_16 : decode cX3_possibleSlips 16 = .ok (.ifCond .eq 9, 3) := by decide +kernel
theorem dX3_possibleSlips_19 : decode cX3_possibleSlips 19 = .ok (.iload_n 2, 1) := by decide +kernel
theorem dX3_possibleSlips_20 : decode cX3_possibleSlips 20 = .ok (.iconst 1, 1) := by decide +kernel
theorem dX3_possibleSlips_21 : decode cX3_possibleSlips 21 = .ok (.iload_n 3, 1) := by decide +kernel
theorem dX3_possibleSlips_22 : decode cX3_possibleSlips 22 = .ok (.ishl, 1) := by decide +kernel
theorem dX3_possibleSlips_23 : decode cX3_possibleSlips 23 = .ok (.ior, 1) := by decide +kernel
theorem dX3_possibleSlips_24 : decode cX3_possibleSlips 24 = .ok (.istore_n 2, 1) := by decide +kernel
theorem dX3_possibleSlips_25 : decode cX3_possibleSlips 25 = .ok (.iinc 3 1, 3) := by decide +kernel
theorem dX3_possibleSlips_28 : decode cX3_possibleSlips 28 = .ok (.goto (-24), 3) := by decide +kernel
theorem dX3_possibleSlips_31 : decode cX3_possibleSlips 31 = .ok (.iload_n 2, 1) := by decide +kernel
theorem dX3_possibleSlips_32 : decode cX3_possibleSlips 32 = .ok (.ireturn, 1) := by decide +kernel
set_option maxRecDepth 20000 in
theorem ggX3_explainsHeard_X1_passesOn : GoodIn wsX3_explainsHeard wsX1_passesOn := goodIn_r _ [9] (by decide +kernel) (by decide +kernel)
set_option maxRecDepth 20000 in
theorem gX3_explainsHeard_X1_passesOn : GoodIn wsX3_explainsHeard (va_wsS RX3 72 yX1_passesOn wsX1_passesOn) := goodIn_app (goodIn_of _ (by decide +kernel)) ggX3_explainsHeard_X1_passesOn
theorem dX3_explainsHeard_0 : decode cX3_explainsHeard 0 = .ok (.iconst 0, 1) := by decide +kernel
theorem dX3_explainsHeard_1 : decode cX3_explainsHeard 1 = .ok (.istore_n 3, 1) := by decide +kernel
theorem dX3_explainsHeard_2 : decode cX3_explainsHeard 2 = .ok (.iload_n 3, 1) := by decide +kernel
theorem dX3_explainsHeard_3 : decode cX3_explainsHeard 3 = .ok (.aload_n 0, 1) := by decide +kernel
theorem dX3_explainsHeard_4 : decode cX3_explainsHeard 4 = .ok (.getfield 38, 3) := by decide +kernel
theorem dX3_explainsHeard_7 : decode cX3_explainsHeard 7 = .ok (.if_icmp .ge 46, 3) := by decide +kernel
theorem dX3_explainsHeard_10 : decode cX3_explainsHeard 10 = .ok (.aload_n 0, 1) := by decide +kernel
theorem dX3_explainsHeard_11 : decode cX3_explainsHeard 11 = .ok (.getfield 25, 3) := by decide +kernel
theorem dX3_explainsHeard_14 : decode cX3_explainsHeard 14 = .ok (.iload_n 3, 1) := by decide +kernel
theorem dX3_explainsHeard_15 : decode cX3_explainsHeard 15 = .ok (.iaload, 1) := by decide +kernel
theorem dX3_explainsHeard_16 : decode cX3_explainsHeard 16 = .ok (.iload_n 1, 1) := by decide +kernel
theorem dX3_explainsHeard_17 : decode cX3_explainsHeard 17 = .ok (.if_icmp .ne 30, 3) := by decide +kernel
theorem dX3_explainsHeard_20 : decode cX3_explainsHeard 20 = .ok (.aload_n 0, 1) := by decide +kernel
theorem dX3_explainsHeard_21 : decode cX3_explainsHeard 21 = .ok (.getfield 11, 3) := by decide +kernel
theorem dX3_explainsHeard_24 : decode cX3_explainsHeard 24 = .ok (.iload_n 1, 1) := by decide +kernel
theorem dX3_explainsHeard_25 : decode cX3_explainsHeard 25 = .ok (.iaload, 1) := by decide +kernel
theorem dX3_explainsHeard_26 : decode cX3_explainsHeard 26 = .ok (.iload_n 2, 1) := by decide +kernel
theorem dX3_explainsHeard_27 : decode cX3_explainsHeard 27 = .ok (.aload_n 0, 1) := by decide +kernel
theorem dX3_explainsHeard_28 : decode cX3_explainsHeard 28 = .ok (.getfield 28, 3) := by decide +kernel
theorem dX3_explainsHeard_31 : decode cX3_explainsHeard 31 = .ok (.iload_n 3, 1) := by decide +kernel
theorem dX3_explainsHeard_32 : decode cX3_explainsHeard 32 = .ok (.iaload, 1) := by decide +kernel
theorem dX3_explainsHeard_33 : decode cX3_explainsHeard 33 = .ok (.invokestatic 72, 3) := by decide +kernel
theorem dX3_explainsHeard_36 : decode cX3_explainsHeard 36 = .ok (.aload_n 0, 1) := by decide +kernel
theorem dX3_explainsHeard_37 : decode cX3_explainsHeard 37 = .ok (.getfield 31, 3) := by decide +kernel
theorem dX3_explainsHeard_40 : decode cX3_explainsHeard 40 = .ok (.iload_n 3, 1) := by decide +kernel
theorem dX3_explainsHeard_41 : decode cX3_explainsHeard 41 = .ok (.iaload, 1) := by decide +kernel
theorem dX3_explainsHeard_42 : decode cX3_explainsHeard 42 = .ok (.if_icmp .eq 5, 3) := by decide +kernel
theorem dX3_explainsHeard_45 : decode cX3_explainsHeard 45 = .ok (.iconst 0, 1) := by decide +kernel
theorem dX3_explainsHeard_46 : decode cX3_explainsHeard 46 = .ok (.ireturn, 1) := by decide +kernel
theorem dX3_explainsHeard_47 : decode cX3_explainsHeard 47 = .ok (.iinc 3 1, 3) := by decide +kernel
theorem dX3_explainsHeard_50 : decode cX3_explainsHeard 50 = .ok (.goto (-48), 3) := by decide +kernel
theorem dX3_explainsHeard_53 : decode cX3_explainsHeard 53 = .ok (.iconst 1, 1) := by decide +kernel
theorem dX3_explainsHeard_54 : decode cX3_explainsHeard 54 = .ok (.ireturn, 1) := by decide +kernel
set_option maxRecDepth 20000 in
theorem ggX3_bestQuestion_X3_possibleSlips : GoodIn wsX3_bestQuestion wsX3_possibleSlips := goodIn_r _ [6, 7, 8, 9, 5, 10, 11, 12, 1, 13, 14, 15, 16, 17, 18, 29, 30, 31, 32, 33, 34, 35, 36, 37, 38, 39] (by decide +kernel) (by decide +kernel)
set_option maxRecDepth 20000 in
theorem gX3_bestQuestion_X3_possibleSlips : GoodIn wsX3_bestQuestion (wsV RX3 110 RX3 yX3_possibleSlips wsX3_possibleSlips) := goodIn_app (goodIn_of _ (by decide +kernel)) ggX3_bestQuestion_X3_possibleSlips
set_option maxRecDepth 20000 in
theorem ggX3_bestQuestion_X3_worstLeft : GoodIn wsX3_bestQuestion wsX3_worstLeft := goodIn_r _ [21, 22, 23, 24, 25, 26, 27, 5, 28, 15, 16, 17, 18] (by decide +kernel) (by decide +kernel)
set_option maxRecDepth 20000 in
theorem gX3_bestQuestion_X3_worstLeft : GoodIn wsX3_bestQuestion (va_wsS RX3 113 yX3_worstLeft wsX3_worstLeft) := goodIn_app (goodIn_of _ (by decide +kernel)) ggX3_bestQuestion_X3_worstLeft
theorem dX3_bestQuestion_0 : decode cX3_bestQuestion 0 = .ok (.aload_n 0, 1) := by decide +kernel
theorem dX3_bestQuestion_1 : decode cX3_bestQuestion 1 = .ok (.iload_n 1, 1) := by decide +kernel
theorem dX3_bestQuestion_2 : decode cX3_bestQuestion 2 = .ok (.invokevirtual 110, 3) := by decide +kernel
theorem dX3_bestQuestion_5 : decode cX3_bestQuestion 5 = .ok (.istore_n 2, 1) := by decide +kernel
theorem dX3_bestQuestion_6 : decode cX3_bestQuestion 6 = .ok (.iconst (-1), 1) := by decide +kernel
theorem dX3_bestQuestion_7 : decode cX3_bestQuestion 7 = .ok (.istore_n 3, 1) := by decide +kernel
theorem dX3_bestQuestion_8 : decode cX3_bestQuestion 8 = .ok (.bipush 11, 2) := by decide +kernel
theorem dX3_bestQuestion_10 : decode cX3_bestQuestion 10 = .ok (.istore 4, 2) := by decide +kernel
theorem dX3_bestQuestion_12 : decode cX3_bestQuestion 12 = .ok (.iconst 0, 1) := by decide +kernel
theorem dX3_bestQuestion_13 : decode cX3_bestQuestion 13 = .ok (.istore 5, 2) := by decide +kernel
theorem dX3_bestQuestion_15 : decode cX3_bestQuestion 15 = .ok (.iload 5, 2) := by decide +kernel
theorem dX3_bestQuestion_17 : decode cX3_bestQuestion 17 = .ok (.bipush 12, 2) := by decide +kernel
theorem dX3_bestQuestion_19 : decode cX3_bestQuestion 19 = .ok (.if_icmp .ge 41, 3) := by decide +kernel
theorem dX3_bestQuestion_22 : decode cX3_bestQuestion 22 = .ok (.iload_n 2, 1) := by decide +kernel
theorem dX3_bestQuestion_23 : decode cX3_bestQuestion 23 = .ok (.ifCond .eq 37, 3) := by decide +kernel
theorem dX3_bestQuestion_26 : decode cX3_bestQuestion 26 = .ok (.aload_n 0, 1) := by decide +kernel
theorem dX3_bestQuestion_27 : decode cX3_bestQuestion 27 = .ok (.getfield 11, 3) := by decide +kernel
theorem dX3_bestQuestion_30 : decode cX3_bestQuestion 30 = .ok (.iload_n 1, 1) := by decide +kernel
theorem dX3_bestQuestion_31 : decode cX3_bestQuestion 31 = .ok (.iaload, 1) := by decide +kernel
theorem dX3_bestQuestion_32 : decode cX3_bestQuestion 32 = .ok (.iload_n 2, 1) := by decide +kernel
theorem dX3_bestQuestion_33 : decode cX3_bestQuestion 33 = .ok (.iload 5, 2) := by decide +kernel
theorem dX3_bestQuestion_35 : decode cX3_bestQuestion 35 = .ok (.invokestatic 113, 3) := by decide +kernel
theorem dX3_bestQuestion_38 : decode cX3_bestQuestion 38 = .ok (.istore 6, 2) := by decide +kernel
theorem dX3_bestQuestion_40 : decode cX3_bestQuestion 40 = .ok (.iload 6, 2) := by decide +kernel
theorem dX3_bestQuestion_42 : decode cX3_bestQuestion 42 = .ok (.iload 4, 2) := by decide +kernel
theorem dX3_bestQuestion_44 : decode cX3_bestQuestion 44 = .ok (.if_icmp .ge 10, 3) := by decide +kernel
theorem dX3_bestQuestion_47 : decode cX3_bestQuestion 47 = .ok (.iload 6, 2) := by decide +kernel
theorem dX3_bestQuestion_49 : decode cX3_bestQuestion 49 = .ok (.istore 4, 2) := by decide +kernel
theorem dX3_bestQuestion_51 : decode cX3_bestQuestion 51 = .ok (.iload 5, 2) := by decide +kernel
theorem dX3_bestQuestion_53 : decode cX3_bestQuestion 53 = .ok (.istore_n 3, 1) := by decide +kernel
theorem dX3_bestQuestion_54 : decode cX3_bestQuestion 54 = .ok (.iinc 5 1, 3) := by decide +kernel
theorem dX3_bestQuestion_57 : decode cX3_bestQuestion 57 = .ok (.goto (-42), 3) := by decide +kernel
theorem dX3_bestQuestion_60 : decode cX3_bestQuestion 60 = .ok (.iload_n 3, 1) := by decide +kernel
theorem dX3_bestQuestion_61 : decode cX3_bestQuestion 61 = .ok (.ireturn, 1) := by decide +kernel
set_option maxRecDepth 20000 in
theorem ggX3_worstLeft_X3_leftBy : GoodIn wsX3_worstLeft wsX3_leftBy := goodIn_r _ [8, 9, 10, 11, 12] (by decide +kernel) (by decide +kernel)
set_option maxRecDepth 20000 in
theorem gX3_worstLeft_X3_leftBy : GoodIn wsX3_worstLeft (va_wsS RX3 116 yX3_leftBy wsX3_leftBy) := goodIn_app (goodIn_of _ (by decide +kernel)) ggX3_worstLeft_X3_leftBy
theorem dX3_worstLeft_0 : decode cX3_worstLeft 0 = .ok (.iconst 0, 1) := by decide +kernel
theorem dX3_worstLeft_1 : decode cX3_worstLeft 1 = .ok (.istore_n 3, 1) := by decide +kernel
theorem dX3_worstLeft_2 : decode cX3_worstLeft 2 = .ok (.iconst 0, 1) := by decide +kernel
theorem dX3_worstLeft_3 : decode cX3_worstLeft 3 = .ok (.istore 4, 2) := by decide +kernel
theorem dX3_worstLeft_5 : decode cX3_worstLeft 5 = .ok (.iload 4, 2) := by decide +kernel
theorem dX3_worstLeft_7 : decode cX3_worstLeft 7 = .ok (.bipush 12, 2) := by decide +kernel
theorem dX3_worstLeft_9 : decode cX3_worstLeft 9 = .ok (.if_icmp .ge 22, 3) := by decide +kernel
theorem dX3_worstLeft_12 : decode cX3_worstLeft 12 = .ok (.iload_n 3, 1) := by decide +kernel
theorem dX3_worstLeft_13 : decode cX3_worstLeft 13 = .ok (.iload_n 0, 1) := by decide +kernel
theorem dX3_worstLeft_14 : decode cX3_worstLeft 14 = .ok (.iload_n 1, 1) := by decide +kernel
theorem dX3_worstLeft_15 : decode cX3_worstLeft 15 = .ok (.iload_n 2, 1) := by decide +kernel
theorem dX3_worstLeft_16 : decode cX3_worstLeft 16 = .ok (.iload 4, 2) := by decide +kernel
theorem dX3_worstLeft_18 : decode cX3_worstLeft 18 = .ok (.invokestatic 116, 3) := by decide +kernel
theorem dX3_worstLeft_21 : decode cX3_worstLeft 21 = .ok (.invokestatic 120, 3) := by decide +kernel
theorem dX3_worstLeft_24 : decode cX3_worstLeft 24 = .ok (.istore_n 3, 1) := by decide +kernel
theorem dX3_worstLeft_25 : decode cX3_worstLeft 25 = .ok (.iinc 4 1, 3) := by decide +kernel
theorem dX3_worstLeft_28 : decode cX3_worstLeft 28 = .ok (.goto (-23), 3) := by decide +kernel
theorem dX3_worstLeft_31 : decode cX3_worstLeft 31 = .ok (.iload_n 3, 1) := by decide +kernel
theorem dX3_worstLeft_32 : decode cX3_worstLeft 32 = .ok (.ireturn, 1) := by decide +kernel
set_option maxRecDepth 20000 in
theorem ggX3_leftBy_X1_passesOn : GoodIn wsX3_leftBy wsX1_passesOn := goodIn_r _ [4] (by decide +kernel) (by decide +kernel)
set_option maxRecDepth 20000 in
theorem gX3_leftBy_X1_passesOn : GoodIn wsX3_leftBy (va_wsS RX3 72 yX1_passesOn wsX1_passesOn) := goodIn_app (goodIn_of _ (by decide +kernel)) ggX3_leftBy_X1_passesOn
theorem dX3_leftBy_0 : decode cX3_leftBy 0 = .ok (.iconst 0, 1) := by decide +kernel
theorem dX3_leftBy_1 : decode cX3_leftBy 1 = .ok (.istore 4, 2) := by decide +kernel
theorem dX3_leftBy_3 : decode cX3_leftBy 3 = .ok (.iconst 0, 1) := by decide +kernel
theorem dX3_leftBy_4 : decode cX3_leftBy 4 = .ok (.istore 5, 2) := by decide +kernel
theorem dX3_leftBy_6 : decode cX3_leftBy 6 = .ok (.iload 5, 2) := by decide +kernel
theorem dX3_leftBy_8 : decode cX3_leftBy 8 = .ok (.bipush 10, 2) := by decide +kernel
theorem dX3_leftBy_10 : decode cX3_leftBy 10 = .ok (.if_icmp .ge 33, 3) := by decide +kernel
theorem dX3_leftBy_13 : decode cX3_leftBy 13 = .ok (.iload_n 1, 1) := by decide +kernel
theorem dX3_leftBy_14 : decode cX3_leftBy 14 = .ok (.iload 5, 2) := by decide +kernel
theorem dX3_leftBy_16 : decode cX3_leftBy 16 = .ok (.ishr, 1) := by decide +kernel
theorem dX3_leftBy_17 : decode cX3_leftBy 17 = .ok (.iconst 1, 1) := by decide +kernel
theorem dX3_leftBy_18 : decode cX3_leftBy 18 = .ok (.iand, 1) := by decide +kernel
theorem dX3_leftBy_19 : decode cX3_leftBy 19 = .ok (.iconst 1, 1) := by decide +kernel
theorem dX3_leftBy_20 : decode cX3_leftBy 20 = .ok (.if_icmp .ne 17, 3) := by decide +kernel
theorem dX3_leftBy_23 : decode cX3_leftBy 23 = .ok (.iload_n 0, 1) := by decide +kernel
theorem dX3_leftBy_24 : decode cX3_leftBy 24 = .ok (.iload 5, 2) := by decide +kernel
theorem dX3_leftBy_26 : decode cX3_leftBy 26 = .ok (.iload_n 2, 1) := by decide +kernel
theorem dX3_leftBy_27 : decode cX3_leftBy 27 = .ok (.invokestatic 72, 3) := by decide +kernel
theorem dX3_leftBy_30 : decode cX3_leftBy 30 = .ok (.iload_n 3, 1) := by decide +kernel
theorem dX3_leftBy_31 : decode cX3_leftBy 31 = .ok (.if_icmp .ne 6, 3) := by decide +kernel
theorem dX3_leftBy_34 : decode cX3_leftBy 34 = .ok (.iinc 4 1, 3) := by decide +kernel
theorem dX3_leftBy_37 : decode cX3_leftBy 37 = .ok (.iinc 5 1, 3) := by decide +kernel
theorem dX3_leftBy_40 : decode cX3_leftBy 40 = .ok (.goto (-34), 3) := by decide +kernel
theorem dX3_leftBy_43 : decode cX3_leftBy 43 = .ok (.iload 4, 2) := by decide +kernel
theorem dX3_leftBy_45 : decode cX3_leftBy 45 = .ok (.ireturn, 1) := by decide +kernel
theorem dX3_knowing_0 : decode cX3_knowing 0 = .ok (.iconst 0, 1) := by decide +kernel
theorem dX3_knowing_1 : decode cX3_knowing 1 = .ok (.istore_n 1, 1) := by decide +kernel
theorem dX3_knowing_2 : decode cX3_knowing 2 = .ok (.iconst 0, 1) := by decide +kernel
theorem dX3_knowing_3 : decode cX3_knowing 3 = .ok (.istore_n 2, 1) := by decide +kernel
theorem dX3_knowing_4 : decode cX3_knowing 4 = .ok (.iload_n 2, 1) := by decide +kernel
theorem dX3_knowing_5 : decode cX3_knowing 5 = .ok (.aload_n 0, 1) := by decide +kernel
theorem dX3_knowing_6 : decode cX3_knowing 6 = .ok (.getfield 34, 3) := by decide +kernel
theorem dX3_knowing_9 : decode cX3_knowing 9 = .ok (.if_icmp .ge 27, 3) := by decide +kernel
theorem dX3_knowing_12 : decode cX3_knowing 12 = .ok (.iload_n 1, 1) := by decide +kernel
theorem dX3_knowing_13 : decode cX3_knowing 13 = .ok (.aload_n 0, 1) := by decide +kernel
theorem dX3_knowing_14 : decode cX3_knowing 14 = .ok (.getfield 18, 3) := by decide +kernel
theorem dX3_knowing_17 : decode cX3_knowing 17 = .ok (.iload_n 2, 1) := by decide +kernel
theorem dX3_knowing_18 : decode cX3_knowing 18 = .ok (.iaload, 1) := by decide +kernel
theorem dX3_knowing_19 : decode cX3_knowing 19 = .ok (.iconst (-1), 1) := by decide +kernel
theorem dX3_knowing_20 : decode cX3_knowing 20 = .ok (.if_icmp .ne 7, 3) := by decide +kernel
theorem dX3_knowing_23 : decode cX3_knowing 23 = .ok (.iconst 0, 1) := by decide +kernel
theorem dX3_knowing_24 : decode cX3_knowing 24 = .ok (.goto 4, 3) := by decide +kernel
theorem dX3_knowing_27 : decode cX3_knowing 27 = .ok (.iconst 1, 1) := by decide +kernel
theorem dX3_knowing_28 : decode cX3_knowing 28 = .ok (.iadd, 1) := by decide +kernel
theorem dX3_knowing_29 : decode cX3_knowing 29 = .ok (.istore_n 1, 1) := by decide +kernel
theorem dX3_knowing_30 : decode cX3_knowing 30 = .ok (.iinc 2 1, 3) := by decide +kernel
theorem dX3_knowing_33 : decode cX3_knowing 33 = .ok (.goto (-29), 3) := by decide +kernel
theorem dX3_knowing_36 : decode cX3_knowing 36 = .ok (.iload_n 1, 1) := by decide +kernel
theorem dX3_knowing_37 : decode cX3_knowing 37 = .ok (.ireturn, 1) := by decide +kernel
set_option maxRecDepth 20000 in
theorem ggX3_unlikeRules_J6_bitCount_0f7a4 : GoodIn wsX3_unlikeRules wsJ6_bitCount_0f7a4 := goodIn_r _ [6, 7, 8, 9] (by decide +kernel) (by decide +kernel)
set_option maxRecDepth 20000 in
theorem gX3_unlikeRules_J6_bitCount_0f7a4 : GoodIn wsX3_unlikeRules (va_wsS RX3 123 yJ6_bitCount_0f7a4 wsJ6_bitCount_0f7a4) := goodIn_app (goodIn_of _ (by decide +kernel)) ggX3_unlikeRules_J6_bitCount_0f7a4
theorem dX3_unlikeRules_0 : decode cX3_unlikeRules 0 = .ok (.iconst 0, 1) := by decide +kernel
theorem dX3_unlikeRules_1 : decode cX3_unlikeRules 1 = .ok (.istore_n 1, 1) := by decide +kernel
theorem dX3_unlikeRules_2 : decode cX3_unlikeRules 2 = .ok (.iconst 0, 1) := by decide +kernel
theorem dX3_unlikeRules_3 : decode cX3_unlikeRules 3 = .ok (.istore_n 2, 1) := by decide +kernel
theorem dX3_unlikeRules_4 : decode cX3_unlikeRules 4 = .ok (.iload_n 2, 1) := by decide +kernel
theorem dX3_unlikeRules_5 : decode cX3_unlikeRules 5 = .ok (.aload_n 0, 1) := by decide +kernel
theorem dX3_unlikeRules_6 : decode cX3_unlikeRules 6 = .ok (.getfield 34, 3) := by decide +kernel
theorem dX3_unlikeRules_9 : decode cX3_unlikeRules 9 = .ok (.if_icmp .ge 34, 3) := by decide +kernel
theorem dX3_unlikeRules_12 : decode cX3_unlikeRules 12 = .ok (.iload_n 1, 1) := by decide +kernel
theorem dX3_unlikeRules_13 : decode cX3_unlikeRules 13 = .ok (.aload_n 0, 1) := by decide +kernel
theorem dX3_unlikeRules_14 : decode cX3_unlikeRules 14 = .ok (.getfield 18, 3) := by decide +kernel
theorem dX3_unlikeRules_17 : decode cX3_unlikeRules 17 = .ok (.iload_n 2, 1) := by decide +kernel
theorem dX3_unlikeRules_18 : decode cX3_unlikeRules 18 = .ok (.iaload, 1) := by decide +kernel
theorem dX3_unlikeRules_19 : decode cX3_unlikeRules 19 = .ok (.iconst (-1), 1) := by decide +kernel
theorem dX3_unlikeRules_20 : decode cX3_unlikeRules 20 = .ok (.if_icmp .ne 7, 3) := by decide +kernel
theorem dX3_unlikeRules_23 : decode cX3_unlikeRules 23 = .ok (.iconst 0, 1) := by decide +kernel
theorem dX3_unlikeRules_24 : decode cX3_unlikeRules 24 = .ok (.goto 11, 3) := by decide +kernel
theorem dX3_unlikeRules_27 : decode cX3_unlikeRules 27 = .ok (.iconst 1, 1) := by decide +kernel
theorem dX3_unlikeRules_28 : decode cX3_unlikeRules 28 = .ok (.aload_n 0, 1) := by decide +kernel
theorem dX3_unlikeRules_29 : decode cX3_unlikeRules 29 = .ok (.getfield 18, 3) := by decide +kernel
theorem dX3_unlikeRules_32 : decode cX3_unlikeRules 32 = .ok (.iload_n 2, 1) := by decide +kernel
theorem dX3_unlikeRules_33 : decode cX3_unlikeRules 33 = .ok (.iaload, 1) := by decide +kernel
theorem dX3_unlikeRules_34 : decode cX3_unlikeRules 34 = .ok (.ishl, 1) := by decide +kernel
theorem dX3_unlikeRules_35 : decode cX3_unlikeRules 35 = .ok (.ior, 1) := by decide +kernel
theorem dX3_unlikeRules_36 : decode cX3_unlikeRules 36 = .ok (.istore_n 1, 1) := by decide +kernel
theorem dX3_unlikeRules_37 : decode cX3_unlikeRules 37 = .ok (.iinc 2 1, 3) := by decide +kernel
theorem dX3_unlikeRules_40 : decode cX3_unlikeRules 40 = .ok (.goto (-36), 3) := by decide +kernel
theorem dX3_unlikeRules_43 : decode cX3_unlikeRules 43 = .ok (.iload_n 1, 1) := by decide +kernel
theorem dX3_unlikeRules_44 : decode cX3_unlikeRules 44 = .ok (.invokestatic 123, 3) := by decide +kernel
theorem dX3_unlikeRules_47 : decode cX3_unlikeRules 47 = .ok (.ireturn, 1) := by decide +kernel
theorem dX3_illOnes_0 : decode cX3_illOnes 0 = .ok (.iconst 0, 1) := by decide +kernel
theorem dX3_illOnes_1 : decode cX3_illOnes 1 = .ok (.istore_n 1, 1) := by decide +kernel
theorem dX3_illOnes_2 : decode cX3_illOnes 2 = .ok (.iconst 0, 1) := by decide +kernel
theorem dX3_illOnes_3 : decode cX3_illOnes 3 = .ok (.istore_n 2, 1) := by decide +kernel
theorem dX3_illOnes_4 : decode cX3_illOnes 4 = .ok (.iload_n 2, 1) := by decide +kernel
theorem dX3_illOnes_5 : decode cX3_illOnes 5 = .ok (.aload_n 0, 1) := by decide +kernel
theorem dX3_illOnes_6 : decode cX3_illOnes 6 = .ok (.getfield 34, 3) := by decide +kernel
theorem dX3_illOnes_9 : decode cX3_illOnes 9 = .ok (.if_icmp .ge 26, 3) := by decide +kernel
theorem dX3_illOnes_12 : decode cX3_illOnes 12 = .ok (.iload_n 1, 1) := by decide +kernel
theorem dX3_illOnes_13 : decode cX3_illOnes 13 = .ok (.aload_n 0, 1) := by decide +kernel
theorem dX3_illOnes_14 : decode cX3_illOnes 14 = .ok (.getfield 21, 3) := by decide +kernel
theorem dX3_illOnes_17 : decode cX3_illOnes 17 = .ok (.iload_n 2, 1) := by decide +kernel
theorem dX3_illOnes_18 : decode cX3_illOnes 18 = .ok (.baload, 1) := by decide +kernel
theorem dX3_illOnes_19 : decode cX3_illOnes 19 = .ok (.ifCond .eq 7, 3) := by decide +kernel
theorem dX3_illOnes_22 : decode cX3_illOnes 22 = .ok (.iconst 1, 1) := by decide +kernel
theorem dX3_illOnes_23 : decode cX3_illOnes 23 = .ok (.goto 4, 3) := by decide +kernel
theorem dX3_illOnes_26 : decode cX3_illOnes 26 = .ok (.iconst 0, 1) := by decide +kernel
theorem dX3_illOnes_27 : decode cX3_illOnes 27 = .ok (.iadd, 1) := by decide +kernel
theorem dX3_illOnes_28 : decode cX3_illOnes 28 = .ok (.istore_n 1, 1) := by decide +kernel
theorem dX3_illOnes_29 : decode cX3_illOnes 29 = .ok (.iinc 2 1, 3) := by decide +kernel
theorem dX3_illOnes_32 : decode cX3_illOnes 32 = .ok (.goto (-28), 3) := by decide +kernel
theorem dX3_illOnes_35 : decode cX3_illOnes 35 = .ok (.iload_n 1, 1) := by decide +kernel
theorem dX3_illOnes_36 : decode cX3_illOnes 36 = .ok (.ireturn, 1) := by decide +kernel
end
section
set_option maxRecDepth 20000 in
theorem ggX4_init_X2_init : GoodIn wsX4_init wsX2_init := goodIn_r _ [20, 21, 2, 3, 22, 23, 24, 44, 45] (by decide +kernel) (by decide +kernel)
set_option maxRecDepth 20000 in
theorem gX4_init_X2_init_n9 : GoodIn wsX4_init (wsX2_init) := ggX4_init_X2_init
set_option maxRecDepth 20000 in
theorem ggX4_init_X3_init : GoodIn wsX4_init wsX3_init := goodIn_r _ [26, 27, 2, 3, 22, 28, 29, 30, 31, 32, 33, 34, 35, 36, 37, 38, 39, 52, 53, 54, 55, 56, 57, 58, 59, 60, 61, 62] (by decide +kernel) (by decide +kernel)
set_option maxRecDepth 20000 in
theorem gX4_init_X3_init_n18 : GoodIn wsX4_init (wsX3_init) := ggX4_init_X3_init
set_option maxRecDepth 20000 in
theorem ggX4_init_X0_init : GoodIn wsX4_init wsX0_init := goodIn_r _ [41, 42, 2, 3, 43, 63] (by decide +kernel) (by decide +kernel)
set_option maxRecDepth 20000 in
theorem gX4_init_X0_init_n31 : GoodIn wsX4_init (wsX0_init) := ggX4_init_X0_init
theorem dX4_init_0 : decode cX4_init 0 = .ok (.aload_n 0, 1) := by decide +kernel
theorem dX4_init_1 : decode cX4_init 1 = .ok (.invokespecial 1, 3) := by decide +kernel
theorem dX4_init_4 : decode cX4_init 4 = .ok (.aload_n 0, 1) := by decide +kernel
theorem dX4_init_5 : decode cX4_init 5 = .ok (.new 7, 3) := by decide +kernel
theorem dX4_init_8 : decode cX4_init 8 = .ok (.dup, 1) := by decide +kernel
theorem dX4_init_9 : decode cX4_init 9 = .ok (.invokespecial 9, 3) := by decide +kernel
theorem dX4_init_12 : decode cX4_init 12 = .ok (.putfield 10, 3) := by decide +kernel
theorem dX4_init_15 : decode cX4_init 15 = .ok (.aload_n 0, 1) := by decide +kernel
theorem dX4_init_16 : decode cX4_init 16 = .ok (.new 16, 3) := by decide +kernel
theorem dX4_init_19 : decode cX4_init 19 = .ok (.dup, 1) := by decide +kernel
theorem dX4_init_20 : decode cX4_init 20 = .ok (.invokespecial 18, 3) := by decide +kernel
theorem dX4_init_23 : decode cX4_init 23 = .ok (.putfield 19, 3) := by decide +kernel
theorem dX4_init_26 : decode cX4_init 26 = .ok (.aload_n 0, 1) := by decide +kernel
theorem dX4_init_27 : decode cX4_init 27 = .ok (.new 16, 3) := by decide +kernel
theorem dX4_init_30 : decode cX4_init 30 = .ok (.dup, 1) := by decide +kernel
theorem dX4_init_31 : decode cX4_init 31 = .ok (.invokespecial 18, 3) := by decide +kernel
theorem dX4_init_34 : decode cX4_init 34 = .ok (.putfield 23, 3) := by decide +kernel
theorem dX4_init_37 : decode cX4_init 37 = .ok (.aload_n 0, 1) := by decide +kernel
theorem dX4_init_38 : decode cX4_init 38 = .ok (.new 16, 3) := by decide +kernel
theorem dX4_init_41 : decode cX4_init 41 = .ok (.dup, 1) := by decide +kernel
theorem dX4_init_42 : decode cX4_init 42 = .ok (.invokespecial 18, 3) := by decide +kernel
theorem dX4_init_45 : decode cX4_init 45 = .ok (.putfield 26, 3) := by decide +kernel
theorem dX4_init_48 : decode cX4_init 48 = .ok (.aload_n 0, 1) := by decide +kernel
theorem dX4_init_49 : decode cX4_init 49 = .ok (.new 29, 3) := by decide +kernel
theorem dX4_init_52 : decode cX4_init 52 = .ok (.dup, 1) := by decide +kernel
theorem dX4_init_53 : decode cX4_init 53 = .ok (.invokespecial 31, 3) := by decide +kernel
theorem dX4_init_56 : decode cX4_init 56 = .ok (.putfield 32, 3) := by decide +kernel
theorem dX4_init_59 : decode cX4_init 59 = .ok (.aload_n 0, 1) := by decide +kernel
theorem dX4_init_60 : decode cX4_init 60 = .ok (.iconst 0, 1) := by decide +kernel
theorem dX4_init_61 : decode cX4_init 61 = .ok (.putfield 36, 3) := by decide +kernel
theorem dX4_init_64 : decode cX4_init 64 = .ok (.return_, 1) := by decide +kernel
set_option maxRecDepth 20000 in
theorem ggX4_letter_X2_isFull : GoodIn wsX4_letter wsX2_isFull := goodIn_r _ [7, 8, 21, 22] (by decide +kernel) (by decide +kernel)
set_option maxRecDepth 20000 in
theorem gX4_letter_X2_isFull : GoodIn wsX4_letter (wsV RX4 40 RX2 yX2_isFull wsX2_isFull) := goodIn_app (goodIn_of _ (by decide +kernel)) ggX4_letter_X2_isFull
set_option maxRecDepth 20000 in
theorem ggX4_letter_X2_add : GoodIn wsX4_letter wsX2_add := goodIn_r _ [12, 13, 8, 14, 4, 5, 6, 7, 21, 22] (by decide +kernel) (by decide +kernel)
set_option maxRecDepth 20000 in
theorem gX4_letter_X2_add : GoodIn wsX4_letter (wsV RX4 44 RX2 yX2_add wsX2_add) := goodIn_app (goodIn_of _ (by decide +kernel)) ggX4_letter_X2_add
theorem dX4_letter_0 : decode cX4_letter 0 = .ok (.iload_n 1, 1) := by decide +kernel
theorem dX4_letter_1 : decode cX4_letter 1 = .ok (.iconst 1, 1) := by decide +kernel
theorem dX4_letter_2 : decode cX4_letter 2 = .ok (.if_icmp .lt 9, 3) := by decide +kernel
theorem dX4_letter_5 : decode cX4_letter 5 = .ok (.iload_n 1, 1) := by decide +kernel
theorem dX4_letter_6 : decode cX4_letter 6 = .ok (.bipush 126, 2) := by decide +kernel
theorem dX4_letter_8 : decode cX4_letter 8 = .ok (.if_icmp .le 6, 3) := by decide +kernel
theorem dX4_letter_11 : decode cX4_letter 11 = .ok (.bipush (-102), 2) := by decide +kernel
theorem dX4_letter_13 : decode cX4_letter 13 = .ok (.ireturn, 1) := by decide +kernel
theorem dX4_letter_14 : decode cX4_letter 14 = .ok (.aload_n 0, 1) := by decide +kernel
theorem dX4_letter_15 : decode cX4_letter 15 = .ok (.getfield 10, 3) := by decide +kernel
theorem dX4_letter_18 : decode cX4_letter 18 = .ok (.invokevirtual 40, 3) := by decide +kernel
theorem dX4_letter_21 : decode cX4_letter 21 = .ok (.ifCond .eq 6, 3) := by decide +kernel
theorem dX4_letter_24 : decode cX4_letter 24 = .ok (.bipush (-104), 2) := by decide +kernel
theorem dX4_letter_26 : decode cX4_letter 26 = .ok (.ireturn, 1) := by decide +kernel
theorem dX4_letter_27 : decode cX4_letter 27 = .ok (.aload_n 0, 1) := by decide +kernel
theorem dX4_letter_28 : decode cX4_letter 28 = .ok (.getfield 10, 3) := by decide +kernel
theorem dX4_letter_31 : decode cX4_letter 31 = .ok (.iload_n 1, 1) := by decide +kernel
theorem dX4_letter_32 : decode cX4_letter 32 = .ok (.invokevirtual 44, 3) := by decide +kernel
theorem dX4_letter_35 : decode cX4_letter 35 = .ok (.aload_n 0, 1) := by decide +kernel
theorem dX4_letter_36 : decode cX4_letter 36 = .ok (.getfield 10, 3) := by decide +kernel
theorem dX4_letter_39 : decode cX4_letter 39 = .ok (.getfield 48, 3) := by decide +kernel
theorem dX4_letter_42 : decode cX4_letter 42 = .ok (.ireturn, 1) := by decide +kernel
theorem dX4_blank_0 : decode cX4_blank 0 = .ok (.aload_n 0, 1) := by decide +kernel
theorem dX4_blank_1 : decode cX4_blank 1 = .ok (.getfield 10, 3) := by decide +kernel
theorem dX4_blank_4 : decode cX4_blank 4 = .ok (.getfield 48, 3) := by decide +kernel
theorem dX4_blank_7 : decode cX4_blank 7 = .ok (.istore_n 1, 1) := by decide +kernel
theorem dX4_blank_8 : decode cX4_blank 8 = .ok (.aload_n 0, 1) := by decide +kernel
theorem dX4_blank_9 : decode cX4_blank 9 = .ok (.getfield 10, 3) := by decide +kernel
theorem dX4_blank_12 : decode cX4_blank 12 = .ok (.iconst 0, 1) := by decide +kernel
theorem dX4_blank_13 : decode cX4_blank 13 = .ok (.putfield 48, 3) := by decide +kernel
theorem dX4_blank_16 : decode cX4_blank 16 = .ok (.iload_n 1, 1) := by decide +kernel
theorem dX4_blank_17 : decode cX4_blank 17 = .ok (.ireturn, 1) := by decide +kernel
set_option maxRecDepth 20000 in
theorem ggX4_fault_X2_firstMisfit : GoodIn wsX4_fault wsX2_firstMisfit := goodIn_r _ [6, 7, 8, 9, 10, 5, 11, 12, 13, 14, 15, 16, 17, 18, 19, 20, 21, 22, 23, 24, 25, 26, 27, 28, 29, 30, 31, 32, 33, 34, 35, 36, 37, 38, 39, 40, 41, 42, 43, 44, 45, 46, 47, 48, 49, 50, 51, 52, 53, 54, 55, 56, 57, 58, 59, 60, 61, 62, 63, 64, 65, 66, 67, 68, 69, 70, 71, 72, 73, 74, 75, 76, 77, 78, 79, 80, 81, 82, 83, 84, 85, 86, 87, 88, 89, 90, 91, 92, 93, 94, 95, 96, 97, 98, 99, 100, 101, 108, 109] (by decide +kernel) (by decide +kernel)
set_option maxRecDepth 20000 in
theorem gX4_fault_X2_firstMisfit : GoodIn wsX4_fault (wsV RX4 51 RX2 yX2_firstMisfit wsX2_firstMisfit) := goodIn_app (goodIn_of _ (by decide +kernel)) ggX4_fault_X2_firstMisfit
theorem dX4_fault_0 : decode cX4_fault 0 = .ok (.aload_n 0, 1) := by decide +kernel
theorem dX4_fault_1 : decode cX4_fault 1 = .ok (.getfield 10, 3) := by decide +kernel
theorem dX4_fault_4 : decode cX4_fault 4 = .ok (.invokevirtual 51, 3) := by decide +kernel
theorem dX4_fault_7 : decode cX4_fault 7 = .ok (.ireturn, 1) := by decide +kernel
set_option maxRecDepth 20000 in
theorem ggX4_school_X2_isSchool : GoodIn wsX4_school wsX2_isSchool := goodIn_r _ [11, 12, 13, 14, 15, 10, 16, 17, 18, 19, 20, 21, 22, 23, 24, 25, 26, 27, 28, 29, 30, 31, 32, 33, 34, 35, 36, 37, 38, 39, 40, 41, 42, 43, 44, 45, 46, 47, 48, 49, 50, 51, 52, 53, 54, 55, 56, 57, 58, 59, 60, 61, 62, 63, 64, 65, 66, 67, 68, 69, 70, 71, 72, 73, 74, 75, 76, 77, 78, 79, 80, 81, 82, 83, 84, 85, 86, 87, 88, 89, 90, 91, 92, 93, 94, 95, 96, 97, 98, 99, 100, 101, 102, 103, 104, 105, 106, 107, 108, 109, 110, 111, 112, 113, 114, 144, 145] (by decide +kernel) (by decide +kernel)
set_option maxRecDepth 20000 in
theorem gX4_school_X2_isSchool : GoodIn wsX4_school (wsV RX4 55 RX2 yX2_isSchool wsX2_isSchool) := goodIn_app (goodIn_of _ (by decide +kernel)) ggX4_school_X2_isSchool
set_option maxRecDepth 20000 in
theorem ggX4_school_X3_readFrom : GoodIn wsX4_school wsX3_readFrom := goodIn_r _ [119, 120, 59, 56, 60, 121, 122, 123, 124, 125, 126, 127, 128, 129, 14, 15, 10, 16, 12, 130, 131, 132, 133, 25, 26, 27, 28, 29, 30, 31, 32, 33, 34, 35, 36, 37, 38, 39, 40, 41, 42, 43, 44, 45, 46, 47, 48, 49, 50, 51, 52, 53, 54, 55, 57, 58, 61, 62, 63, 64, 65, 66, 67, 68, 69, 70, 71, 72, 73, 74, 75, 76, 77, 78, 79, 80, 81, 82, 83, 84, 85, 86, 87, 88, 89, 90, 91, 92, 93, 94, 95, 96, 97, 98, 99, 100, 101, 102, 103, 104, 105, 106, 107, 108, 109, 110, 111, 112, 113, 114, 134, 135, 136, 137, 146, 147, 148, 149, 150, 151, 152, 153, 154, 155, 156, 144, 145] (by decide +kernel) (by decide +kernel)
set_option maxRecDepth 20000 in
theorem gX4_school_X3_readFrom : GoodIn wsX4_school (wsV RX4 58 RX3 yX3_readFrom wsX3_readFrom) := goodIn_app (goodIn_of _ (by decide +kernel)) ggX4_school_X3_readFrom
theorem dX4_school_0 : decode cX4_school 0 = .ok (.aload_n 0, 1) := by decide +kernel
theorem dX4_school_1 : decode cX4_school 1 = .ok (.getfield 10, 3) := by decide +kernel
theorem dX4_school_4 : decode cX4_school 4 = .ok (.invokevirtual 55, 3) := by decide +kernel
theorem dX4_school_7 : decode cX4_school 7 = .ok (.ifCond .ne 6, 3) := by decide +kernel
theorem dX4_school_10 : decode cX4_school 10 = .ok (.bipush (-103), 2) := by decide +kernel
theorem dX4_school_12 : decode cX4_school 12 = .ok (.ireturn, 1) := by decide +kernel
theorem dX4_school_13 : decode cX4_school 13 = .ok (.aload_n 0, 1) := by decide +kernel
theorem dX4_school_14 : decode cX4_school 14 = .ok (.getfield 19, 3) := by decide +kernel
theorem dX4_school_17 : decode cX4_school 17 = .ok (.aload_n 0, 1) := by decide +kernel
theorem dX4_school_18 : decode cX4_school 18 = .ok (.getfield 10, 3) := by decide +kernel
theorem dX4_school_21 : decode cX4_school 21 = .ok (.invokevirtual 58, 3) := by decide +kernel
theorem dX4_school_24 : decode cX4_school 24 = .ok (.aload_n 0, 1) := by decide +kernel
theorem dX4_school_25 : decode cX4_school 25 = .ok (.getfield 10, 3) := by decide +kernel
theorem dX4_school_28 : decode cX4_school 28 = .ok (.iconst 0, 1) := by decide +kernel
theorem dX4_school_29 : decode cX4_school 29 = .ok (.putfield 48, 3) := by decide +kernel
theorem dX4_school_32 : decode cX4_school 32 = .ok (.aload_n 0, 1) := by decide +kernel
theorem dX4_school_33 : decode cX4_school 33 = .ok (.getfield 23, 3) := by decide +kernel
theorem dX4_school_36 : decode cX4_school 36 = .ok (.iconst 0, 1) := by decide +kernel
theorem dX4_school_37 : decode cX4_school 37 = .ok (.putfield 62, 3) := by decide +kernel
theorem dX4_school_40 : decode cX4_school 40 = .ok (.aload_n 0, 1) := by decide +kernel
theorem dX4_school_41 : decode cX4_school 41 = .ok (.dup, 1) := by decide +kernel
theorem dX4_school_42 : decode cX4_school 42 = .ok (.getfield 36, 3) := by decide +kernel
theorem dX4_school_45 : decode cX4_school 45 = .ok (.iconst 1, 1) := by decide +kernel
theorem dX4_school_46 : decode cX4_school 46 = .ok (.iadd, 1) := by decide +kernel
theorem dX4_school_47 : decode cX4_school 47 = .ok (.putfield 36, 3) := by decide +kernel
theorem dX4_school_50 : decode cX4_school 50 = .ok (.aload_n 0, 1) := by decide +kernel
theorem dX4_school_51 : decode cX4_school 51 = .ok (.getfield 19, 3) := by decide +kernel
theorem dX4_school_54 : decode cX4_school 54 = .ok (.getfield 62, 3) := by decide +kernel
theorem dX4_school_57 : decode cX4_school 57 = .ok (.ireturn, 1) := by decide +kernel
set_option maxRecDepth 20000 in
theorem ggX4_child_X3_has : GoodIn wsX4_child wsX3_has := goodIn_r _ [10, 11, 57, 58, 59, 60, 61, 62, 63, 64, 65, 66, 67] (by decide +kernel) (by decide +kernel)
set_option maxRecDepth 20000 in
theorem gX4_child_X3_has : GoodIn wsX4_child (wsV RX4 63 RX3 yX3_has wsX3_has) := goodIn_app (goodIn_of _ (by decide +kernel)) ggX4_child_X3_has
set_option maxRecDepth 20000 in
theorem ggX4_child_X3_taughtNowBy : GoodIn wsX4_child wsX3_taughtNowBy := goodIn_r _ [15, 16, 17, 18, 19, 20, 21, 22, 23, 57, 58, 59, 60, 61, 62, 63, 64, 65, 66, 67] (by decide +kernel) (by decide +kernel)
set_option maxRecDepth 20000 in
theorem gX4_child_X3_taughtNowBy : GoodIn wsX4_child (wsV RX4 81 RX3 yX3_taughtNowBy wsX3_taughtNowBy) := goodIn_app (goodIn_of _ (by decide +kernel)) ggX4_child_X3_taughtNowBy
set_option maxRecDepth 20000 in
theorem ggX4_child_X3_possibleSlips : GoodIn wsX4_child wsX3_possibleSlips := goodIn_r _ [27, 28, 29, 30, 9, 31, 32, 33, 18, 34, 35, 20, 21, 22, 23, 57, 58, 59, 60, 61, 62, 63, 64, 65, 66, 67] (by decide +kernel) (by decide +kernel)
set_option maxRecDepth 20000 in
theorem gX4_child_X3_possibleSlips : GoodIn wsX4_child (wsV RX4 85 RX3 yX3_possibleSlips wsX3_possibleSlips) := goodIn_app (goodIn_of _ (by decide +kernel)) ggX4_child_X3_possibleSlips
set_option maxRecDepth 20000 in
theorem ggX4_child_X3_bestQuestion : GoodIn wsX4_child wsX3_bestQuestion := goodIn_r _ [39, 18, 40, 25, 26, 9, 27, 28, 29, 30, 31, 32, 33, 34, 35, 20, 21, 22, 23, 41, 42, 43, 44, 45, 46, 47, 48, 49, 50, 57, 58, 59, 60, 61, 62, 63, 64, 65, 66, 67] (by decide +kernel) (by decide +kernel)
set_option maxRecDepth 20000 in
theorem gX4_child_X3_bestQuestion : GoodIn wsX4_child (wsV RX4 88 RX3 yX3_bestQuestion wsX3_bestQuestion) := goodIn_app (goodIn_of _ (by decide +kernel)) ggX4_child_X3_bestQuestion
theorem dX4_child_0 : decode cX4_child 0 = .ok (.aload_n 0, 1) := by decide +kernel
theorem dX4_child_1 : decode cX4_child 1 = .ok (.getfield 19, 3) := by decide +kernel
theorem dX4_child_4 : decode cX4_child 4 = .ok (.iload_n 1, 1) := by decide +kernel
theorem dX4_child_5 : decode cX4_child 5 = .ok (.invokevirtual 63, 3) := by decide +kernel
theorem dX4_child_8 : decode cX4_child 8 = .ok (.ifCond .ne 6, 3) := by decide +kernel
theorem dX4_child_11 : decode cX4_child 11 = .ok (.bipush (-101), 2) := by decide +kernel
theorem dX4_child_13 : decode cX4_child 13 = .ok (.ireturn, 1) := by decide +kernel
theorem dX4_child_14 : decode cX4_child 14 = .ok (.iload_n 2, 1) := by decide +kernel
theorem dX4_child_15 : decode cX4_child 15 = .ok (.tableswitch 116 0 6 #[41, 51, 61, 71, 89, 98, 107], 41) := by decide +kernel
theorem dX4_child_56 : decode cX4_child 56 = .ok (.aload_n 0, 1) := by decide +kernel
theorem dX4_child_57 : decode cX4_child 57 = .ok (.getfield 19, 3) := by decide +kernel
theorem dX4_child_60 : decode cX4_child 60 = .ok (.getfield 67, 3) := by decide +kernel
theorem dX4_child_63 : decode cX4_child 63 = .ok (.iload_n 1, 1) := by decide +kernel
theorem dX4_child_64 : decode cX4_child 64 = .ok (.iaload, 1) := by decide +kernel
theorem dX4_child_65 : decode cX4_child 65 = .ok (.ireturn, 1) := by decide +kernel
theorem dX4_child_66 : decode cX4_child 66 = .ok (.aload_n 0, 1) := by decide +kernel
theorem dX4_child_67 : decode cX4_child 67 = .ok (.getfield 19, 3) := by decide +kernel
theorem dX4_child_70 : decode cX4_child 70 = .ok (.getfield 71, 3) := by decide +kernel
theorem dX4_child_73 : decode cX4_child 73 = .ok (.iload_n 1, 1) := by decide +kernel
theorem dX4_child_74 : decode cX4_child 74 = .ok (.iaload, 1) := by decide +kernel
theorem dX4_child_75 : decode cX4_child 75 = .ok (.ireturn, 1) := by decide +kernel
theorem dX4_child_76 : decode cX4_child 76 = .ok (.aload_n 0, 1) := by decide +kernel
theorem dX4_child_77 : decode cX4_child 77 = .ok (.getfield 19, 3) := by decide +kernel
theorem dX4_child_80 : decode cX4_child 80 = .ok (.getfield 74, 3) := by decide +kernel
theorem dX4_child_83 : decode cX4_child 83 = .ok (.iload_n 1, 1) := by decide +kernel
theorem dX4_child_84 : decode cX4_child 84 = .ok (.iaload, 1) := by decide +kernel
theorem dX4_child_85 : decode cX4_child 85 = .ok (.ireturn, 1) := by decide +kernel
theorem dX4_child_86 : decode cX4_child 86 = .ok (.aload_n 0, 1) := by decide +kernel
theorem dX4_child_87 : decode cX4_child 87 = .ok (.getfield 19, 3) := by decide +kernel
theorem dX4_child_90 : decode cX4_child 90 = .ok (.getfield 77, 3) := by decide +kernel
theorem dX4_child_93 : decode cX4_child 93 = .ok (.iload_n 1, 1) := by decide +kernel
theorem dX4_child_94 : decode cX4_child 94 = .ok (.baload, 1) := by decide +kernel
theorem dX4_child_95 : decode cX4_child 95 = .ok (.ifCond .eq 7, 3) := by decide +kernel
theorem dX4_child_98 : decode cX4_child 98 = .ok (.iconst 1, 1) := by decide +kernel
theorem dX4_child_99 : decode cX4_child 99 = .ok (.goto 4, 3) := by decide +kernel
theorem dX4_child_102 : decode cX4_child 102 = .ok (.iconst 0, 1) := by decide +kernel
theorem dX4_child_103 : decode cX4_child 103 = .ok (.ireturn, 1) := by decide +kernel
theorem dX4_child_104 : decode cX4_child 104 = .ok (.aload_n 0, 1) := by decide +kernel
theorem dX4_child_105 : decode cX4_child 105 = .ok (.getfield 19, 3) := by decide +kernel
theorem dX4_child_108 : decode cX4_child 108 = .ok (.iload_n 1, 1) := by decide +kernel
theorem dX4_child_109 : decode cX4_child 109 = .ok (.invokevirtual 81, 3) := by decide +kernel
theorem dX4_child_112 : decode cX4_child 112 = .ok (.ireturn, 1) := by decide +kernel
theorem dX4_child_113 : decode cX4_child 113 = .ok (.aload_n 0, 1) := by decide +kernel
theorem dX4_child_114 : decode cX4_child 114 = .ok (.getfield 19, 3) := by decide +kernel
theorem dX4_child_117 : decode cX4_child 117 = .ok (.iload_n 1, 1) := by decide +kernel
theorem dX4_child_118 : decode cX4_child 118 = .ok (.invokevirtual 85, 3) := by decide +kernel
theorem dX4_child_121 : decode cX4_child 121 = .ok (.ireturn, 1) := by decide +kernel
theorem dX4_child_122 : decode cX4_child 122 = .ok (.aload_n 0, 1) := by decide +kernel
theorem dX4_child_123 : decode cX4_child 123 = .ok (.getfield 19, 3) := by decide +kernel
theorem dX4_child_126 : decode cX4_child 126 = .ok (.iload_n 1, 1) := by decide +kernel
theorem dX4_child_127 : decode cX4_child 127 = .ok (.invokevirtual 88, 3) := by decide +kernel
theorem dX4_child_130 : decode cX4_child 130 = .ok (.ireturn, 1) := by decide +kernel
theorem dX4_child_131 : decode cX4_child 131 = .ok (.bipush (-102), 2) := by decide +kernel
theorem dX4_child_133 : decode cX4_child 133 = .ok (.ireturn, 1) := by decide +kernel
set_option maxRecDepth 20000 in
theorem ggX4_as_X3_has : GoodIn wsX4_as wsX3_has := goodIn_r _ [7, 8, 19, 20, 21, 22, 23, 24, 25, 26, 27, 28, 29] (by decide +kernel) (by decide +kernel)
set_option maxRecDepth 20000 in
theorem gX4_as_X3_has : GoodIn wsX4_as (wsV RX4 63 RX3 yX3_has wsX3_has) := goodIn_app (goodIn_of _ (by decide +kernel)) ggX4_as_X3_has
set_option maxRecDepth 20000 in
theorem ggX4_as_X1_isA : GoodIn wsX4_as wsX1_isA := goodIn_r _ [12] (by decide +kernel) (by decide +kernel)
set_option maxRecDepth 20000 in
theorem gX4_as_X1_isA : GoodIn wsX4_as (va_wsS RX4 91 yX1_isA wsX1_isA) := goodIn_app (goodIn_of _ (by decide +kernel)) ggX4_as_X1_isA
theorem dX4_as_0 : decode cX4_as 0 = .ok (.aload_n 0, 1) := by decide +kernel
theorem dX4_as_1 : decode cX4_as 1 = .ok (.getfield 19, 3) := by decide +kernel
theorem dX4_as_4 : decode cX4_as 4 = .ok (.iload_n 1, 1) := by decide +kernel
theorem dX4_as_5 : decode cX4_as 5 = .ok (.invokevirtual 63, 3) := by decide +kernel
theorem dX4_as_8 : decode cX4_as 8 = .ok (.ifCond .ne 6, 3) := by decide +kernel
theorem dX4_as_11 : decode cX4_as 11 = .ok (.bipush (-101), 2) := by decide +kernel
theorem dX4_as_13 : decode cX4_as 13 = .ok (.ireturn, 1) := by decide +kernel
theorem dX4_as_14 : decode cX4_as 14 = .ok (.iload_n 2, 1) := by decide +kernel
theorem dX4_as_15 : decode cX4_as 15 = .ok (.ifCond .lt 8, 3) := by decide +kernel
theorem dX4_as_18 : decode cX4_as 18 = .ok (.iload_n 2, 1) := by decide +kernel
theorem dX4_as_19 : decode cX4_as 19 = .ok (.iconst 5, 1) := by decide +kernel
theorem dX4_as_20 : decode cX4_as 20 = .ok (.if_icmp .lt 6, 3) := by decide +kernel
theorem dX4_as_23 : decode cX4_as 23 = .ok (.bipush (-102), 2) := by decide +kernel
theorem dX4_as_25 : decode cX4_as 25 = .ok (.ireturn, 1) := by decide +kernel
theorem dX4_as_26 : decode cX4_as 26 = .ok (.aload_n 0, 1) := by decide +kernel
theorem dX4_as_27 : decode cX4_as 27 = .ok (.getfield 19, 3) := by decide +kernel
theorem dX4_as_30 : decode cX4_as 30 = .ok (.getfield 67, 3) := by decide +kernel
theorem dX4_as_33 : decode cX4_as 33 = .ok (.iload_n 1, 1) := by decide +kernel
theorem dX4_as_34 : decode cX4_as 34 = .ok (.iaload, 1) := by decide +kernel
theorem dX4_as_35 : decode cX4_as 35 = .ok (.iload_n 2, 1) := by decide +kernel
theorem dX4_as_36 : decode cX4_as 36 = .ok (.invokestatic 91, 3) := by decide +kernel
theorem dX4_as_39 : decode cX4_as 39 = .ok (.ifCond .eq 7, 3) := by decide +kernel
theorem dX4_as_42 : decode cX4_as 42 = .ok (.iload_n 1, 1) := by decide +kernel
theorem dX4_as_43 : decode cX4_as 43 = .ok (.goto 4, 3) := by decide +kernel
theorem dX4_as_46 : decode cX4_as 46 = .ok (.iconst (-1), 1) := by decide +kernel
theorem dX4_as_47 : decode cX4_as 47 = .ok (.ireturn, 1) := by decide +kernel
set_option maxRecDepth 20000 in
theorem ggX4_teaches_X4_refusalOf : GoodIn wsX4_teaches wsX4_refusalOf := goodIn_r _ [8, 1, 9, 10, 11, 12, 13, 14, 15, 16, 7, 17, 22, 23, 24, 25, 26, 27, 28, 29, 30, 31, 32, 33, 34, 35, 36, 37, 38] (by decide +kernel) (by decide +kernel)
set_option maxRecDepth 20000 in
theorem gX4_teaches_X4_refusalOf : GoodIn wsX4_teaches (wsV RX4 97 RX4 yX4_refusalOf wsX4_refusalOf) := goodIn_app (goodIn_of _ (by decide +kernel)) ggX4_teaches_X4_refusalOf
set_option maxRecDepth 20000 in
theorem ggX4_teaches_X1_passesOn : GoodIn wsX4_teaches wsX1_passesOn := goodIn_r _ [21] (by decide +kernel) (by decide +kernel)
set_option maxRecDepth 20000 in
theorem gX4_teaches_X1_passesOn : GoodIn wsX4_teaches (va_wsS RX4 101 yX1_passesOn wsX1_passesOn) := goodIn_app (goodIn_of _ (by decide +kernel)) ggX4_teaches_X1_passesOn
theorem dX4_teaches_0 : decode cX4_teaches 0 = .ok (.aload_n 0, 1) := by decide +kernel
theorem dX4_teaches_1 : decode cX4_teaches 1 = .ok (.iload_n 1, 1) := by decide +kernel
theorem dX4_teaches_2 : decode cX4_teaches 2 = .ok (.iload_n 2, 1) := by decide +kernel
theorem dX4_teaches_3 : decode cX4_teaches 3 = .ok (.invokevirtual 97, 3) := by decide +kernel
theorem dX4_teaches_6 : decode cX4_teaches 6 = .ok (.istore_n 3, 1) := by decide +kernel
theorem dX4_teaches_7 : decode cX4_teaches 7 = .ok (.iload_n 3, 1) := by decide +kernel
theorem dX4_teaches_8 : decode cX4_teaches 8 = .ok (.ifCond .eq 7, 3) := by decide +kernel
theorem dX4_teaches_11 : decode cX4_teaches 11 = .ok (.iload_n 3, 1) := by decide +kernel
theorem dX4_teaches_12 : decode cX4_teaches 12 = .ok (.goto 25, 3) := by decide +kernel
theorem dX4_teaches_15 : decode cX4_teaches 15 = .ok (.aload_n 0, 1) := by decide +kernel
theorem dX4_teaches_16 : decode cX4_teaches 16 = .ok (.getfield 19, 3) := by decide +kernel
theorem dX4_teaches_19 : decode cX4_teaches 19 = .ok (.getfield 67, 3) := by decide +kernel
theorem dX4_teaches_22 : decode cX4_teaches 22 = .ok (.iload_n 1, 1) := by decide +kernel
theorem dX4_teaches_23 : decode cX4_teaches 23 = .ok (.iaload, 1) := by decide +kernel
theorem dX4_teaches_24 : decode cX4_teaches 24 = .ok (.aload_n 0, 1) := by decide +kernel
theorem dX4_teaches_25 : decode cX4_teaches 25 = .ok (.getfield 19, 3) := by decide +kernel
theorem dX4_teaches_28 : decode cX4_teaches 28 = .ok (.getfield 71, 3) := by decide +kernel
theorem dX4_teaches_31 : decode cX4_teaches 31 = .ok (.iload_n 1, 1) := by decide +kernel
theorem dX4_teaches_32 : decode cX4_teaches 32 = .ok (.iaload, 1) := by decide +kernel
theorem dX4_teaches_33 : decode cX4_teaches 33 = .ok (.iload_n 2, 1) := by decide +kernel
theorem dX4_teaches_34 : decode cX4_teaches 34 = .ok (.invokestatic 101, 3) := by decide +kernel
theorem dX4_teaches_37 : decode cX4_teaches 37 = .ok (.ireturn, 1) := by decide +kernel
set_option maxRecDepth 20000 in
theorem ggX4_tell_X4_refusalOf : GoodIn wsX4_tell wsX4_refusalOf := goodIn_r _ [7, 1, 8, 9, 10, 11, 12, 13, 14, 15, 6, 16, 17, 18, 19, 20, 21, 22, 23, 24, 25, 26, 27, 28, 29, 30, 31, 32, 33] (by decide +kernel) (by decide +kernel)
set_option maxRecDepth 20000 in
theorem gX4_tell_X4_refusalOf : GoodIn wsX4_tell (wsV RX4 97 RX4 yX4_refusalOf wsX4_refusalOf) := goodIn_app (goodIn_of _ (by decide +kernel)) ggX4_tell_X4_refusalOf
theorem dX4_tell_0 : decode cX4_tell 0 = .ok (.aload_n 0, 1) := by decide +kernel
theorem dX4_tell_1 : decode cX4_tell 1 = .ok (.iload_n 1, 1) := by decide +kernel
theorem dX4_tell_2 : decode cX4_tell 2 = .ok (.iload_n 2, 1) := by decide +kernel
theorem dX4_tell_3 : decode cX4_tell 3 = .ok (.invokevirtual 97, 3) := by decide +kernel
theorem dX4_tell_6 : decode cX4_tell 6 = .ok (.istore_n 3, 1) := by decide +kernel
theorem dX4_tell_7 : decode cX4_tell 7 = .ok (.iload_n 3, 1) := by decide +kernel
theorem dX4_tell_8 : decode cX4_tell 8 = .ok (.ifCond .eq 5, 3) := by decide +kernel
theorem dX4_tell_11 : decode cX4_tell 11 = .ok (.iload_n 3, 1) := by decide +kernel
theorem dX4_tell_12 : decode cX4_tell 12 = .ok (.ireturn, 1) := by decide +kernel
theorem dX4_tell_13 : decode cX4_tell 13 = .ok (.aload_n 0, 1) := by decide +kernel
theorem dX4_tell_14 : decode cX4_tell 14 = .ok (.getfield 19, 3) := by decide +kernel
theorem dX4_tell_17 : decode cX4_tell 17 = .ok (.getfield 74, 3) := by decide +kernel
theorem dX4_tell_20 : decode cX4_tell 20 = .ok (.iload_n 1, 1) := by decide +kernel
theorem dX4_tell_21 : decode cX4_tell 21 = .ok (.iaload, 1) := by decide +kernel
theorem dX4_tell_22 : decode cX4_tell 22 = .ok (.istore 4, 2) := by decide +kernel
theorem dX4_tell_24 : decode cX4_tell 24 = .ok (.aload_n 0, 1) := by decide +kernel
theorem dX4_tell_25 : decode cX4_tell 25 = .ok (.getfield 19, 3) := by decide +kernel
theorem dX4_tell_28 : decode cX4_tell 28 = .ok (.getfield 74, 3) := by decide +kernel
theorem dX4_tell_31 : decode cX4_tell 31 = .ok (.iload_n 1, 1) := by decide +kernel
theorem dX4_tell_32 : decode cX4_tell 32 = .ok (.iload_n 2, 1) := by decide +kernel
theorem dX4_tell_33 : decode cX4_tell 33 = .ok (.iastore, 1) := by decide +kernel
theorem dX4_tell_34 : decode cX4_tell 34 = .ok (.iload 4, 2) := by decide +kernel
theorem dX4_tell_36 : decode cX4_tell 36 = .ok (.ireturn, 1) := by decide +kernel
set_option maxRecDepth 20000 in
theorem ggX4_ill_X3_has : GoodIn wsX4_ill wsX3_has := goodIn_r _ [7, 8, 15, 16, 17, 18, 19, 20, 21, 22, 23, 24, 25] (by decide +kernel) (by decide +kernel)
set_option maxRecDepth 20000 in
theorem gX4_ill_X3_has : GoodIn wsX4_ill (wsV RX4 63 RX3 yX3_has wsX3_has) := goodIn_app (goodIn_of _ (by decide +kernel)) ggX4_ill_X3_has
theorem dX4_ill_0 : decode cX4_ill 0 = .ok (.aload_n 0, 1) := by decide +kernel
theorem dX4_ill_1 : decode cX4_ill 1 = .ok (.getfield 19, 3) := by decide +kernel
theorem dX4_ill_4 : decode cX4_ill 4 = .ok (.iload_n 1, 1) := by decide +kernel
theorem dX4_ill_5 : decode cX4_ill 5 = .ok (.invokevirtual 63, 3) := by decide +kernel
theorem dX4_ill_8 : decode cX4_ill 8 = .ok (.ifCond .ne 6, 3) := by decide +kernel
theorem dX4_ill_11 : decode cX4_ill 11 = .ok (.bipush (-101), 2) := by decide +kernel
theorem dX4_ill_13 : decode cX4_ill 13 = .ok (.ireturn, 1) := by decide +kernel
theorem dX4_ill_14 : decode cX4_ill 14 = .ok (.aload_n 0, 1) := by decide +kernel
theorem dX4_ill_15 : decode cX4_ill 15 = .ok (.getfield 19, 3) := by decide +kernel
theorem dX4_ill_18 : decode cX4_ill 18 = .ok (.getfield 77, 3) := by decide +kernel
theorem dX4_ill_21 : decode cX4_ill 21 = .ok (.iload_n 1, 1) := by decide +kernel
theorem dX4_ill_22 : decode cX4_ill 22 = .ok (.baload, 1) := by decide +kernel
theorem dX4_ill_23 : decode cX4_ill 23 = .ok (.istore_n 3, 1) := by decide +kernel
theorem dX4_ill_24 : decode cX4_ill 24 = .ok (.aload_n 0, 1) := by decide +kernel
theorem dX4_ill_25 : decode cX4_ill 25 = .ok (.getfield 19, 3) := by decide +kernel
theorem dX4_ill_28 : decode cX4_ill 28 = .ok (.getfield 77, 3) := by decide +kernel
theorem dX4_ill_31 : decode cX4_ill 31 = .ok (.iload_n 1, 1) := by decide +kernel
theorem dX4_ill_32 : decode cX4_ill 32 = .ok (.iload_n 2, 1) := by decide +kernel
theorem dX4_ill_33 : decode cX4_ill 33 = .ok (.bastore, 1) := by decide +kernel
theorem dX4_ill_34 : decode cX4_ill 34 = .ok (.iload_n 3, 1) := by decide +kernel
theorem dX4_ill_35 : decode cX4_ill 35 = .ok (.ifCond .eq 7, 3) := by decide +kernel
theorem dX4_ill_38 : decode cX4_ill 38 = .ok (.iconst 1, 1) := by decide +kernel
theorem dX4_ill_39 : decode cX4_ill 39 = .ok (.goto 4, 3) := by decide +kernel
theorem dX4_ill_42 : decode cX4_ill 42 = .ok (.iconst 0, 1) := by decide +kernel
theorem dX4_ill_43 : decode cX4_ill 43 = .ok (.ireturn, 1) := by decide +kernel
set_option maxRecDepth 20000 in
theorem ggX4_slip_X3_has : GoodIn wsX4_slip wsX3_has := goodIn_r _ [7, 8, 15, 16, 17, 18, 19, 20, 21, 22, 23, 24, 25] (by decide +kernel) (by decide +kernel)
set_option maxRecDepth 20000 in
theorem gX4_slip_X3_has : GoodIn wsX4_slip (wsV RX4 63 RX3 yX3_has wsX3_has) := goodIn_app (goodIn_of _ (by decide +kernel)) ggX4_slip_X3_has
theorem dX4_slip_0 : decode cX4_slip 0 = .ok (.aload_n 0, 1) := by decide +kernel
theorem dX4_slip_1 : decode cX4_slip 1 = .ok (.getfield 19, 3) := by decide +kernel
theorem dX4_slip_4 : decode cX4_slip 4 = .ok (.iload_n 1, 1) := by decide +kernel
theorem dX4_slip_5 : decode cX4_slip 5 = .ok (.invokevirtual 63, 3) := by decide +kernel
theorem dX4_slip_8 : decode cX4_slip 8 = .ok (.ifCond .ne 6, 3) := by decide +kernel
theorem dX4_slip_11 : decode cX4_slip 11 = .ok (.bipush (-101), 2) := by decide +kernel
theorem dX4_slip_13 : decode cX4_slip 13 = .ok (.ireturn, 1) := by decide +kernel
theorem dX4_slip_14 : decode cX4_slip 14 = .ok (.iload_n 2, 1) := by decide +kernel
theorem dX4_slip_15 : decode cX4_slip 15 = .ok (.ifCond .lt 9, 3) := by decide +kernel
theorem dX4_slip_18 : decode cX4_slip 18 = .ok (.iload_n 2, 1) := by decide +kernel
theorem dX4_slip_19 : decode cX4_slip 19 = .ok (.bipush 10, 2) := by decide +kernel
theorem dX4_slip_21 : decode cX4_slip 21 = .ok (.if_icmp .lt 6, 3) := by decide +kernel
theorem dX4_slip_24 : decode cX4_slip 24 = .ok (.bipush (-102), 2) := by decide +kernel
theorem dX4_slip_26 : decode cX4_slip 26 = .ok (.ireturn, 1) := by decide +kernel
theorem dX4_slip_27 : decode cX4_slip 27 = .ok (.aload_n 0, 1) := by decide +kernel
theorem dX4_slip_28 : decode cX4_slip 28 = .ok (.getfield 19, 3) := by decide +kernel
theorem dX4_slip_31 : decode cX4_slip 31 = .ok (.getfield 71, 3) := by decide +kernel
theorem dX4_slip_34 : decode cX4_slip 34 = .ok (.iload_n 1, 1) := by decide +kernel
theorem dX4_slip_35 : decode cX4_slip 35 = .ok (.iaload, 1) := by decide +kernel
theorem dX4_slip_36 : decode cX4_slip 36 = .ok (.istore_n 3, 1) := by decide +kernel
theorem dX4_slip_37 : decode cX4_slip 37 = .ok (.aload_n 0, 1) := by decide +kernel
theorem dX4_slip_38 : decode cX4_slip 38 = .ok (.getfield 19, 3) := by decide +kernel
theorem dX4_slip_41 : decode cX4_slip 41 = .ok (.getfield 71, 3) := by decide +kernel
theorem dX4_slip_44 : decode cX4_slip 44 = .ok (.iload_n 1, 1) := by decide +kernel
theorem dX4_slip_45 : decode cX4_slip 45 = .ok (.iload_n 2, 1) := by decide +kernel
theorem dX4_slip_46 : decode cX4_slip 46 = .ok (.iastore, 1) := by decide +kernel
theorem dX4_slip_47 : decode cX4_slip 47 = .ok (.iload_n 3, 1) := by decide +kernel
theorem dX4_slip_48 : decode cX4_slip 48 = .ok (.ireturn, 1) := by decide +kernel
set_option maxRecDepth 20000 in
theorem ggX4_thursday_X3_isNone : GoodIn wsX4_thursday wsX3_isNone := goodIn_r _ [6, 7, 40, 41, 42, 43, 44, 45, 46, 47, 48, 49, 50] (by decide +kernel) (by decide +kernel)
set_option maxRecDepth 20000 in
theorem gX4_thursday_X3_isNone : GoodIn wsX4_thursday (wsV RX4 105 RX3 yX3_isNone wsX3_isNone) := goodIn_app (goodIn_of _ (by decide +kernel)) ggX4_thursday_X3_isNone
set_option maxRecDepth 20000 in
theorem ggX4_thursday_X3_holdThursday : GoodIn wsX4_thursday wsX3_holdThursday := goodIn_r _ [11, 12, 13, 14, 15, 16, 17, 5, 18, 7, 19, 20, 21, 22, 23, 24, 25, 26, 27, 28, 29, 30, 31, 32, 33, 40, 41, 42, 43, 44, 45, 46, 47, 48, 49, 50] (by decide +kernel) (by decide +kernel)
set_option maxRecDepth 20000 in
theorem gX4_thursday_X3_holdThursday : GoodIn wsX4_thursday (wsV RX4 108 RX3 yX3_holdThursday wsX3_holdThursday) := goodIn_app (goodIn_of _ (by decide +kernel)) ggX4_thursday_X3_holdThursday
theorem dX4_thursday_0 : decode cX4_thursday 0 = .ok (.aload_n 0, 1) := by decide +kernel
theorem dX4_thursday_1 : decode cX4_thursday 1 = .ok (.getfield 19, 3) := by decide +kernel
theorem dX4_thursday_4 : decode cX4_thursday 4 = .ok (.invokevirtual 105, 3) := by decide +kernel
theorem dX4_thursday_7 : decode cX4_thursday 7 = .ok (.ifCond .eq 8, 3) := by decide +kernel
theorem dX4_thursday_10 : decode cX4_thursday 10 = .ok (.bipush (-103), 2) := by decide +kernel
theorem dX4_thursday_12 : decode cX4_thursday 12 = .ok (.goto 10, 3) := by decide +kernel
theorem dX4_thursday_15 : decode cX4_thursday 15 = .ok (.aload_n 0, 1) := by decide +kernel
theorem dX4_thursday_16 : decode cX4_thursday 16 = .ok (.getfield 19, 3) := by decide +kernel
theorem dX4_thursday_19 : decode cX4_thursday 19 = .ok (.invokevirtual 108, 3) := by decide +kernel
theorem dX4_thursday_22 : decode cX4_thursday 22 = .ok (.ireturn, 1) := by decide +kernel
set_option maxRecDepth 20000 in
theorem ggX4_arrives_X4_refusalOf : GoodIn wsX4_arrives wsX4_refusalOf := goodIn_r _ [6, 1, 7, 8, 9, 10, 11, 12, 13, 14, 5, 15, 30, 31, 32, 33, 34, 35, 36, 37, 38, 39, 40, 41, 42, 43, 44, 45, 46] (by decide +kernel) (by decide +kernel)
set_option maxRecDepth 20000 in
theorem gX4_arrives_X4_refusalOf : GoodIn wsX4_arrives (wsV RX4 97 RX4 yX4_refusalOf wsX4_refusalOf) := goodIn_app (goodIn_of _ (by decide +kernel)) ggX4_arrives_X4_refusalOf
set_option maxRecDepth 20000 in
theorem ggX4_arrives_X3_atTop : GoodIn wsX4_arrives wsX3_atTop := goodIn_r _ [19, 20, 21, 22, 23, 24, 10, 25, 12, 26, 27, 28, 29, 36, 37, 38, 39, 40, 41, 42, 43, 44, 45, 46] (by decide +kernel) (by decide +kernel)
set_option maxRecDepth 20000 in
theorem gX4_arrives_X3_atTop : GoodIn wsX4_arrives (wsV RX4 111 RX3 yX3_atTop wsX3_atTop) := goodIn_app (goodIn_of _ (by decide +kernel)) ggX4_arrives_X3_atTop
theorem dX4_arrives_0 : decode cX4_arrives 0 = .ok (.aload_n 0, 1) := by decide +kernel
theorem dX4_arrives_1 : decode cX4_arrives 1 = .ok (.iload_n 1, 1) := by decide +kernel
theorem dX4_arrives_2 : decode cX4_arrives 2 = .ok (.iload_n 2, 1) := by decide +kernel
theorem dX4_arrives_3 : decode cX4_arrives 3 = .ok (.invokevirtual 97, 3) := by decide +kernel
theorem dX4_arrives_6 : decode cX4_arrives 6 = .ok (.istore_n 3, 1) := by decide +kernel
theorem dX4_arrives_7 : decode cX4_arrives 7 = .ok (.iload_n 3, 1) := by decide +kernel
theorem dX4_arrives_8 : decode cX4_arrives 8 = .ok (.ifCond .eq 7, 3) := by decide +kernel
theorem dX4_arrives_11 : decode cX4_arrives 11 = .ok (.iload_n 3, 1) := by decide +kernel
theorem dX4_arrives_12 : decode cX4_arrives 12 = .ok (.goto 13, 3) := by decide +kernel
theorem dX4_arrives_15 : decode cX4_arrives 15 = .ok (.aload_n 0, 1) := by decide +kernel
theorem dX4_arrives_16 : decode cX4_arrives 16 = .ok (.getfield 19, 3) := by decide +kernel
theorem dX4_arrives_19 : decode cX4_arrives 19 = .ok (.iload_n 1, 1) := by decide +kernel
theorem dX4_arrives_20 : decode cX4_arrives 20 = .ok (.iload_n 2, 1) := by decide +kernel
theorem dX4_arrives_21 : decode cX4_arrives 21 = .ok (.iconst (-1), 1) := by decide +kernel
theorem dX4_arrives_22 : decode cX4_arrives 22 = .ok (.invokevirtual 111, 3) := by decide +kernel
theorem dX4_arrives_25 : decode cX4_arrives 25 = .ok (.ireturn, 1) := by decide +kernel
set_option maxRecDepth 20000 in
theorem ggX4_from_X4_refusalOf : GoodIn wsX4_from wsX4_refusalOf := goodIn_r _ [6, 1, 7, 8, 9, 10, 11, 12, 13, 14, 5, 15, 34, 35, 36, 37, 38, 39, 40, 41, 42, 43, 44, 45, 46, 47, 48, 49, 50] (by decide +kernel) (by decide +kernel)
set_option maxRecDepth 20000 in
theorem gX4_from_X4_refusalOf : GoodIn wsX4_from (wsV RX4 97 RX4 yX4_refusalOf wsX4_refusalOf) := goodIn_app (goodIn_of _ (by decide +kernel)) ggX4_from_X4_refusalOf
set_option maxRecDepth 20000 in
theorem ggX4_from_X3_sourcesOf : GoodIn wsX4_from wsX3_sourcesOf := goodIn_r _ [19, 20, 21, 22, 10, 23, 24, 25, 26, 27, 28, 29, 12, 30, 31, 32, 33, 40, 41, 42, 43, 44, 45, 46, 47, 48, 49, 50] (by decide +kernel) (by decide +kernel)
set_option maxRecDepth 20000 in
theorem gX4_from_X3_sourcesOf : GoodIn wsX4_from (wsV RX4 114 RX3 yX3_sourcesOf wsX3_sourcesOf) := goodIn_app (goodIn_of _ (by decide +kernel)) ggX4_from_X3_sourcesOf
theorem dX4_from_0 : decode cX4_from 0 = .ok (.aload_n 0, 1) := by decide +kernel
theorem dX4_from_1 : decode cX4_from 1 = .ok (.iload_n 1, 1) := by decide +kernel
theorem dX4_from_2 : decode cX4_from 2 = .ok (.iload_n 2, 1) := by decide +kernel
theorem dX4_from_3 : decode cX4_from 3 = .ok (.invokevirtual 97, 3) := by decide +kernel
theorem dX4_from_6 : decode cX4_from 6 = .ok (.istore_n 3, 1) := by decide +kernel
theorem dX4_from_7 : decode cX4_from 7 = .ok (.iload_n 3, 1) := by decide +kernel
theorem dX4_from_8 : decode cX4_from 8 = .ok (.ifCond .eq 7, 3) := by decide +kernel
theorem dX4_from_11 : decode cX4_from 11 = .ok (.iload_n 3, 1) := by decide +kernel
theorem dX4_from_12 : decode cX4_from 12 = .ok (.goto 12, 3) := by decide +kernel
theorem dX4_from_15 : decode cX4_from 15 = .ok (.aload_n 0, 1) := by decide +kernel
theorem dX4_from_16 : decode cX4_from 16 = .ok (.getfield 19, 3) := by decide +kernel
theorem dX4_from_19 : decode cX4_from 19 = .ok (.iload_n 1, 1) := by decide +kernel
theorem dX4_from_20 : decode cX4_from 20 = .ok (.iload_n 2, 1) := by decide +kernel
theorem dX4_from_21 : decode cX4_from 21 = .ok (.invokevirtual 114, 3) := by decide +kernel
theorem dX4_from_24 : decode cX4_from 24 = .ok (.ireturn, 1) := by decide +kernel
set_option maxRecDepth 20000 in
theorem ggX4_soon_X3_isNone : GoodIn wsX4_soon wsX3_isNone := goodIn_r _ [6, 7, 25, 26, 27, 28, 29, 30, 31, 32, 33, 34, 35] (by decide +kernel) (by decide +kernel)
set_option maxRecDepth 20000 in
theorem gX4_soon_X3_isNone : GoodIn wsX4_soon (wsV RX4 105 RX3 yX3_isNone wsX3_isNone) := goodIn_app (goodIn_of _ (by decide +kernel)) ggX4_soon_X3_isNone
set_option maxRecDepth 20000 in
theorem ggX4_soon_X3_thursdaysToTop : GoodIn wsX4_soon wsX3_thursdaysToTop := goodIn_r _ [11, 12, 13, 14, 3, 4, 5, 6, 7, 15, 16, 17, 18, 25, 26, 27, 28, 29, 30, 31, 32, 33, 34, 35] (by decide +kernel) (by decide +kernel)
set_option maxRecDepth 20000 in
theorem gX4_soon_X3_thursdaysToTop : GoodIn wsX4_soon (wsV RX4 117 RX3 yX3_thursdaysToTop wsX3_thursdaysToTop) := goodIn_app (goodIn_of _ (by decide +kernel)) ggX4_soon_X3_thursdaysToTop
theorem dX4_soon_0 : decode cX4_soon 0 = .ok (.aload_n 0, 1) := by decide +kernel
theorem dX4_soon_1 : decode cX4_soon 1 = .ok (.getfield 19, 3) := by decide +kernel
theorem dX4_soon_4 : decode cX4_soon 4 = .ok (.invokevirtual 105, 3) := by decide +kernel
theorem dX4_soon_7 : decode cX4_soon 7 = .ok (.ifCond .eq 8, 3) := by decide +kernel
theorem dX4_soon_10 : decode cX4_soon 10 = .ok (.bipush (-103), 2) := by decide +kernel
theorem dX4_soon_12 : decode cX4_soon 12 = .ok (.goto 10, 3) := by decide +kernel
theorem dX4_soon_15 : decode cX4_soon 15 = .ok (.aload_n 0, 1) := by decide +kernel
theorem dX4_soon_16 : decode cX4_soon 16 = .ok (.getfield 19, 3) := by decide +kernel
theorem dX4_soon_19 : decode cX4_soon 19 = .ok (.invokevirtual 117, 3) := by decide +kernel
theorem dX4_soon_22 : decode cX4_soon 22 = .ok (.ireturn, 1) := by decide +kernel
set_option maxRecDepth 20000 in
theorem ggX4_cure_X3_isNone : GoodIn wsX4_cure wsX3_isNone := goodIn_r _ [6, 7, 37, 38, 39, 40, 41, 42, 43, 44, 45, 46, 47] (by decide +kernel) (by decide +kernel)
set_option maxRecDepth 20000 in
theorem gX4_cure_X3_isNone : GoodIn wsX4_cure (wsV RX4 105 RX3 yX3_isNone wsX3_isNone) := goodIn_app (goodIn_of _ (by decide +kernel)) ggX4_cure_X3_isNone
set_option maxRecDepth 20000 in
theorem ggX4_cure_X3_bestToCure : GoodIn wsX4_cure wsX3_bestToCure := goodIn_r _ [11, 7, 12, 13, 14, 5, 15, 16, 17, 18, 19, 20, 21, 22, 23, 24, 25, 26, 27, 28, 29, 37, 38, 39, 40, 41, 42, 43, 44, 45, 46, 47] (by decide +kernel) (by decide +kernel)
set_option maxRecDepth 20000 in
theorem gX4_cure_X3_bestToCure : GoodIn wsX4_cure (wsV RX4 120 RX3 yX3_bestToCure wsX3_bestToCure) := goodIn_app (goodIn_of _ (by decide +kernel)) ggX4_cure_X3_bestToCure
set_option maxRecDepth 20000 in
theorem ggX4_cure_X3_unchangedAtTop : GoodIn wsX4_cure wsX3_unchangedAtTop := goodIn_r _ [15, 16, 17, 18, 5, 19, 20, 21, 22, 23, 24, 25, 7, 26, 27, 28, 29, 37, 38, 39, 40, 41, 42, 43, 44, 45, 46, 47] (by decide +kernel) (by decide +kernel)
set_option maxRecDepth 20000 in
theorem gX4_cure_X3_unchangedAtTop : GoodIn wsX4_cure (wsV RX4 123 RX3 yX3_unchangedAtTop wsX3_unchangedAtTop) := goodIn_app (goodIn_of _ (by decide +kernel)) ggX4_cure_X3_unchangedAtTop
theorem dX4_cure_0 : decode cX4_cure 0 = .ok (.iload_n 1, 1) := by decide +kernel
theorem dX4_cure_1 : decode cX4_cure 1 = .ok (.ifCond .lt 8, 3) := by decide +kernel
theorem dX4_cure_4 : decode cX4_cure 4 = .ok (.iload_n 1, 1) := by decide +kernel
theorem dX4_cure_5 : decode cX4_cure 5 = .ok (.iconst 1, 1) := by decide +kernel
theorem dX4_cure_6 : decode cX4_cure 6 = .ok (.if_icmp .le 6, 3) := by decide +kernel
theorem dX4_cure_9 : decode cX4_cure 9 = .ok (.bipush (-102), 2) := by decide +kernel
theorem dX4_cure_11 : decode cX4_cure 11 = .ok (.ireturn, 1) := by decide +kernel
theorem dX4_cure_12 : decode cX4_cure 12 = .ok (.aload_n 0, 1) := by decide +kernel
theorem dX4_cure_13 : decode cX4_cure 13 = .ok (.getfield 19, 3) := by decide +kernel
theorem dX4_cure_16 : decode cX4_cure 16 = .ok (.invokevirtual 105, 3) := by decide +kernel
theorem dX4_cure_19 : decode cX4_cure 19 = .ok (.ifCond .eq 6, 3) := by decide +kernel
theorem dX4_cure_22 : decode cX4_cure 22 = .ok (.bipush (-103), 2) := by decide +kernel
theorem dX4_cure_24 : decode cX4_cure 24 = .ok (.ireturn, 1) := by decide +kernel
theorem dX4_cure_25 : decode cX4_cure 25 = .ok (.aload_n 0, 1) := by decide +kernel
theorem dX4_cure_26 : decode cX4_cure 26 = .ok (.getfield 19, 3) := by decide +kernel
theorem dX4_cure_29 : decode cX4_cure 29 = .ok (.invokevirtual 120, 3) := by decide +kernel
theorem dX4_cure_32 : decode cX4_cure 32 = .ok (.istore_n 2, 1) := by decide +kernel
theorem dX4_cure_33 : decode cX4_cure 33 = .ok (.iload_n 1, 1) := by decide +kernel
theorem dX4_cure_34 : decode cX4_cure 34 = .ok (.ifCond .ne 7, 3) := by decide +kernel
theorem dX4_cure_37 : decode cX4_cure 37 = .ok (.iload_n 2, 1) := by decide +kernel
theorem dX4_cure_38 : decode cX4_cure 38 = .ok (.goto 11, 3) := by decide +kernel
theorem dX4_cure_41 : decode cX4_cure 41 = .ok (.aload_n 0, 1) := by decide +kernel
theorem dX4_cure_42 : decode cX4_cure 42 = .ok (.getfield 19, 3) := by decide +kernel
theorem dX4_cure_45 : decode cX4_cure 45 = .ok (.iload_n 2, 1) := by decide +kernel
theorem dX4_cure_46 : decode cX4_cure 46 = .ok (.invokevirtual 123, 3) := by decide +kernel
theorem dX4_cure_49 : decode cX4_cure 49 = .ok (.ireturn, 1) := by decide +kernel
set_option maxRecDepth 20000 in
theorem ggX4_hear_X4_refusalOf : GoodIn wsX4_hear wsX4_refusalOf := goodIn_r _ [7, 1, 8, 9, 10, 11, 12, 13, 14, 15, 6, 16, 30, 31, 32, 33, 34, 35, 36, 37, 38, 39, 40, 41, 42, 43, 44, 45, 46] (by decide +kernel) (by decide +kernel)
set_option maxRecDepth 20000 in
theorem gX4_hear_X4_refusalOf : GoodIn wsX4_hear (wsV RX4 97 RX4 yX4_refusalOf wsX4_refusalOf) := goodIn_app (goodIn_of _ (by decide +kernel)) ggX4_hear_X4_refusalOf
set_option maxRecDepth 20000 in
theorem ggX4_hear_X4_isRule : GoodIn wsX4_hear wsX4_isRule := goodIn_r _ [16] (by decide +kernel) (by decide +kernel)
set_option maxRecDepth 20000 in
theorem gX4_hear_X4_isRule : GoodIn wsX4_hear (va_wsS RX4 126 yX4_isRule wsX4_isRule) := goodIn_app (goodIn_of _ (by decide +kernel)) ggX4_hear_X4_isRule
set_option maxRecDepth 20000 in
theorem ggX4_hear_X3_isHeardFull : GoodIn wsX4_hear wsX3_isHeardFull := goodIn_r _ [20, 21, 36, 37, 38, 39, 40, 41, 42, 43, 44, 45, 46] (by decide +kernel) (by decide +kernel)
set_option maxRecDepth 20000 in
theorem gX4_hear_X3_isHeardFull : GoodIn wsX4_hear (wsV RX4 129 RX3 yX3_isHeardFull wsX3_isHeardFull) := goodIn_app (goodIn_of _ (by decide +kernel)) ggX4_hear_X3_isHeardFull
set_option maxRecDepth 20000 in
theorem ggX4_hear_X3_addHeard : GoodIn wsX4_hear wsX3_addHeard := goodIn_r _ [25, 26, 21, 27, 28, 29, 18, 19, 11, 20, 36, 37, 38, 39, 40, 41, 42, 43, 44, 45, 46] (by decide +kernel) (by decide +kernel)
set_option maxRecDepth 20000 in
theorem gX4_hear_X3_addHeard : GoodIn wsX4_hear (wsV RX4 132 RX3 yX3_addHeard wsX3_addHeard) := goodIn_app (goodIn_of _ (by decide +kernel)) ggX4_hear_X3_addHeard
theorem dX4_hear_0 : decode cX4_hear 0 = .ok (.aload_n 0, 1) := by decide +kernel
theorem dX4_hear_1 : decode cX4_hear 1 = .ok (.iload_n 1, 1) := by decide +kernel
theorem dX4_hear_2 : decode cX4_hear 2 = .ok (.iload_n 2, 1) := by decide +kernel
theorem dX4_hear_3 : decode cX4_hear 3 = .ok (.invokevirtual 97, 3) := by decide +kernel
theorem dX4_hear_6 : decode cX4_hear 6 = .ok (.istore 4, 2) := by decide +kernel
theorem dX4_hear_8 : decode cX4_hear 8 = .ok (.iload 4, 2) := by decide +kernel
theorem dX4_hear_10 : decode cX4_hear 10 = .ok (.ifCond .eq 6, 3) := by decide +kernel
theorem dX4_hear_13 : decode cX4_hear 13 = .ok (.iload 4, 2) := by decide +kernel
theorem dX4_hear_15 : decode cX4_hear 15 = .ok (.ireturn, 1) := by decide +kernel
theorem dX4_hear_16 : decode cX4_hear 16 = .ok (.iload_n 3, 1) := by decide +kernel
theorem dX4_hear_17 : decode cX4_hear 17 = .ok (.invokestatic 126, 3) := by decide +kernel
theorem dX4_hear_20 : decode cX4_hear 20 = .ok (.ifCond .ne 6, 3) := by decide +kernel
theorem dX4_hear_23 : decode cX4_hear 23 = .ok (.bipush (-102), 2) := by decide +kernel
theorem dX4_hear_25 : decode cX4_hear 25 = .ok (.ireturn, 1) := by decide +kernel
theorem dX4_hear_26 : decode cX4_hear 26 = .ok (.aload_n 0, 1) := by decide +kernel
theorem dX4_hear_27 : decode cX4_hear 27 = .ok (.getfield 19, 3) := by decide +kernel
theorem dX4_hear_30 : decode cX4_hear 30 = .ok (.invokevirtual 129, 3) := by decide +kernel
theorem dX4_hear_33 : decode cX4_hear 33 = .ok (.ifCond .eq 6, 3) := by decide +kernel
theorem dX4_hear_36 : decode cX4_hear 36 = .ok (.bipush (-104), 2) := by decide +kernel
theorem dX4_hear_38 : decode cX4_hear 38 = .ok (.ireturn, 1) := by decide +kernel
theorem dX4_hear_39 : decode cX4_hear 39 = .ok (.aload_n 0, 1) := by decide +kernel
theorem dX4_hear_40 : decode cX4_hear 40 = .ok (.getfield 19, 3) := by decide +kernel
theorem dX4_hear_43 : decode cX4_hear 43 = .ok (.iload_n 1, 1) := by decide +kernel
theorem dX4_hear_44 : decode cX4_hear 44 = .ok (.iload_n 2, 1) := by decide +kernel
theorem dX4_hear_45 : decode cX4_hear 45 = .ok (.iload_n 3, 1) := by decide +kernel
theorem dX4_hear_46 : decode cX4_hear 46 = .ok (.invokevirtual 132, 3) := by decide +kernel
theorem dX4_hear_49 : decode cX4_hear 49 = .ok (.aload_n 0, 1) := by decide +kernel
theorem dX4_hear_50 : decode cX4_hear 50 = .ok (.getfield 19, 3) := by decide +kernel
theorem dX4_hear_53 : decode cX4_hear 53 = .ok (.getfield 136, 3) := by decide +kernel
theorem dX4_hear_56 : decode cX4_hear 56 = .ok (.ireturn, 1) := by decide +kernel
theorem dX4_forget_0 : decode cX4_forget 0 = .ok (.aload_n 0, 1) := by decide +kernel
theorem dX4_forget_1 : decode cX4_forget 1 = .ok (.getfield 19, 3) := by decide +kernel
theorem dX4_forget_4 : decode cX4_forget 4 = .ok (.getfield 136, 3) := by decide +kernel
theorem dX4_forget_7 : decode cX4_forget 7 = .ok (.istore_n 1, 1) := by decide +kernel
theorem dX4_forget_8 : decode cX4_forget 8 = .ok (.aload_n 0, 1) := by decide +kernel
theorem dX4_forget_9 : decode cX4_forget 9 = .ok (.getfield 19, 3) := by decide +kernel
theorem dX4_forget_12 : decode cX4_forget 12 = .ok (.iconst 0, 1) := by decide +kernel
theorem dX4_forget_13 : decode cX4_forget 13 = .ok (.putfield 136, 3) := by decide +kernel
theorem dX4_forget_16 : decode cX4_forget 16 = .ok (.iload_n 1, 1) := by decide +kernel
theorem dX4_forget_17 : decode cX4_forget 17 = .ok (.ireturn, 1) := by decide +kernel
set_option maxRecDepth 20000 in
theorem ggX4_terms_X3_isNone : GoodIn wsX4_terms wsX3_isNone := goodIn_r _ [10, 11, 73, 74, 75, 76, 77, 78, 79, 80, 81, 82, 83] (by decide +kernel) (by decide +kernel)
set_option maxRecDepth 20000 in
theorem gX4_terms_X3_isNone : GoodIn wsX4_terms (wsV RX4 105 RX3 yX3_isNone wsX3_isNone) := goodIn_app (goodIn_of _ (by decide +kernel)) ggX4_terms_X3_isNone
set_option maxRecDepth 20000 in
theorem ggX4_terms_X3_copyFrom : GoodIn wsX4_terms wsX3_copyFrom := goodIn_r _ [15, 11, 16, 17, 18, 19, 20, 21, 22, 23, 24, 25, 26, 27, 28, 29, 73, 74, 75, 76, 77, 78, 79, 80, 81, 82, 83] (by decide +kernel) (by decide +kernel)
set_option maxRecDepth 20000 in
theorem gX4_terms_X3_copyFrom : GoodIn wsX4_terms (wsV RX4 139 RX3 yX3_copyFrom wsX3_copyFrom) := goodIn_app (goodIn_of _ (by decide +kernel)) ggX4_terms_X3_copyFrom
set_option maxRecDepth 20000 in
theorem ggX4_terms_X3_beginAnew : GoodIn wsX4_terms wsX3_beginAnew := goodIn_r _ [33, 25, 11, 26, 34, 35, 36, 37, 38, 39, 40, 41, 42, 43, 73, 74, 75, 76, 77, 78, 79, 80, 81, 82, 83, 72] (by decide +kernel) (by decide +kernel)
set_option maxRecDepth 20000 in
theorem gX4_terms_X3_beginAnew : GoodIn wsX4_terms (wsV RX4 147 RX3 yX3_beginAnew wsX3_beginAnew) := goodIn_app (goodIn_of _ (by decide +kernel)) ggX4_terms_X3_beginAnew
set_option maxRecDepth 20000 in
theorem ggX4_terms_X3_top : GoodIn wsX4_terms wsX3_top := goodIn_r _ [47, 11, 73, 74, 75, 76, 77, 78, 79, 80, 81, 82, 83] (by decide +kernel) (by decide +kernel)
set_option maxRecDepth 20000 in
theorem gX4_terms_X3_top : GoodIn wsX4_terms (wsV RX4 151 RX3 yX3_top wsX3_top) := goodIn_app (goodIn_of _ (by decide +kernel)) ggX4_terms_X3_top
set_option maxRecDepth 20000 in
theorem ggX4_terms_X3_isTaughtNext : GoodIn wsX4_terms wsX3_isTaughtNext := goodIn_r _ [51, 26, 52, 53, 54, 9, 55, 25, 19, 24, 56, 57, 58, 59, 73, 74, 75, 76, 77, 78, 79, 80, 81, 82, 83] (by decide +kernel) (by decide +kernel)
set_option maxRecDepth 20000 in
theorem gX4_terms_X3_isTaughtNext : GoodIn wsX4_terms (wsV RX4 154 RX3 yX3_isTaughtNext wsX3_isTaughtNext) := goodIn_app (goodIn_of _ (by decide +kernel)) ggX4_terms_X3_isTaughtNext
set_option maxRecDepth 20000 in
theorem ggX4_terms_X3_holdThursday : GoodIn wsX4_terms wsX3_holdThursday := goodIn_r _ [63, 25, 17, 18, 64, 45, 46, 9, 47, 11, 65, 49, 50, 51, 26, 52, 53, 54, 55, 19, 24, 56, 57, 58, 59, 73, 74, 75, 76, 77, 78, 79, 80, 81, 82, 83] (by decide +kernel) (by decide +kernel)
set_option maxRecDepth 20000 in
theorem gX4_terms_X3_holdThursday : GoodIn wsX4_terms (wsV RX4 108 RX3 yX3_holdThursday wsX3_holdThursday) := goodIn_app (goodIn_of _ (by decide +kernel)) ggX4_terms_X3_holdThursday
theorem dX4_terms_0 : decode cX4_terms 0 = .ok (.iload_n 1, 1) := by decide +kernel
theorem dX4_terms_1 : decode cX4_terms 1 = .ok (.iconst 1, 1) := by decide +kernel
theorem dX4_terms_2 : decode cX4_terms 2 = .ok (.if_icmp .lt 22, 3) := by decide +kernel
theorem dX4_terms_5 : decode cX4_terms 5 = .ok (.iload_n 1, 1) := by decide +kernel
theorem dX4_terms_6 : decode cX4_terms 6 = .ok (.bipush 60, 2) := by decide +kernel
theorem dX4_terms_8 : decode cX4_terms 8 = .ok (.if_icmp .gt 16, 3) := by decide +kernel
theorem dX4_terms_11 : decode cX4_terms 11 = .ok (.iload_n 2, 1) := by decide +kernel
theorem dX4_terms_12 : decode cX4_terms 12 = .ok (.ifCond .lt 12, 3) := by decide +kernel
theorem dX4_terms_15 : decode cX4_terms 15 = .ok (.iload_n 3, 1) := by decide +kernel
theorem dX4_terms_16 : decode cX4_terms 16 = .ok (.ifCond .lt 8, 3) := by decide +kernel
theorem dX4_terms_19 : decode cX4_terms 19 = .ok (.iload_n 3, 1) := by decide +kernel
theorem dX4_terms_20 : decode cX4_terms 20 = .ok (.iconst 2, 1) := by decide +kernel
theorem dX4_terms_21 : decode cX4_terms 21 = .ok (.if_icmp .le 6, 3) := by decide +kernel
theorem dX4_terms_24 : decode cX4_terms 24 = .ok (.bipush (-102), 2) := by decide +kernel
theorem dX4_terms_26 : decode cX4_terms 26 = .ok (.ireturn, 1) := by decide +kernel
theorem dX4_terms_27 : decode cX4_terms 27 = .ok (.aload_n 0, 1) := by decide +kernel
theorem dX4_terms_28 : decode cX4_terms 28 = .ok (.getfield 19, 3) := by decide +kernel
theorem dX4_terms_31 : decode cX4_terms 31 = .ok (.invokevirtual 105, 3) := by decide +kernel
theorem dX4_terms_34 : decode cX4_terms 34 = .ok (.ifCond .eq 6, 3) := by decide +kernel
theorem dX4_terms_37 : decode cX4_terms 37 = .ok (.bipush (-103), 2) := by decide +kernel
theorem dX4_terms_39 : decode cX4_terms 39 = .ok (.ireturn, 1) := by decide +kernel
theorem dX4_terms_40 : decode cX4_terms 40 = .ok (.aload_n 0, 1) := by decide +kernel
theorem dX4_terms_41 : decode cX4_terms 41 = .ok (.getfield 26, 3) := by decide +kernel
theorem dX4_terms_44 : decode cX4_terms 44 = .ok (.aload_n 0, 1) := by decide +kernel
theorem dX4_terms_45 : decode cX4_terms 45 = .ok (.getfield 19, 3) := by decide +kernel
theorem dX4_terms_48 : decode cX4_terms 48 = .ok (.invokevirtual 139, 3) := by decide +kernel
theorem dX4_terms_51 : decode cX4_terms 51 = .ok (.aload_n 0, 1) := by decide +kernel
theorem dX4_terms_52 : decode cX4_terms 52 = .ok (.getfield 32, 3) := by decide +kernel
theorem dX4_terms_55 : decode cX4_terms 55 = .ok (.iload_n 2, 1) := by decide +kernel
theorem dX4_terms_56 : decode cX4_terms 56 = .ok (.i2l, 1) := by decide +kernel
theorem dX4_terms_57 : decode cX4_terms 57 = .ok (.putfield 143, 3) := by decide +kernel
theorem dX4_terms_60 : decode cX4_terms 60 = .ok (.iconst 0, 1) := by decide +kernel
theorem dX4_terms_61 : decode cX4_terms 61 = .ok (.istore 4, 2) := by decide +kernel
theorem dX4_terms_63 : decode cX4_terms 63 = .ok (.iconst 0, 1) := by decide +kernel
theorem dX4_terms_64 : decode cX4_terms 64 = .ok (.istore 5, 2) := by decide +kernel
theorem dX4_terms_66 : decode cX4_terms 66 = .ok (.iload 5, 2) := by decide +kernel
theorem dX4_terms_68 : decode cX4_terms 68 = .ok (.iload_n 1, 1) := by decide +kernel
theorem dX4_terms_69 : decode cX4_terms 69 = .ok (.if_icmp .ge 55, 3) := by decide +kernel
theorem dX4_terms_72 : decode cX4_terms 72 = .ok (.aload_n 0, 1) := by decide +kernel
theorem dX4_terms_73 : decode cX4_terms 73 = .ok (.getfield 26, 3) := by decide +kernel
theorem dX4_terms_76 : decode cX4_terms 76 = .ok (.aload_n 0, 1) := by decide +kernel
theorem dX4_terms_77 : decode cX4_terms 77 = .ok (.getfield 32, 3) := by decide +kernel
theorem dX4_terms_80 : decode cX4_terms 80 = .ok (.invokevirtual 147, 3) := by decide +kernel
theorem dX4_terms_83 : decode cX4_terms 83 = .ok (.iload 4, 2) := by decide +kernel
theorem dX4_terms_85 : decode cX4_terms 85 = .ok (.aload_n 0, 1) := by decide +kernel
theorem dX4_terms_86 : decode cX4_terms 86 = .ok (.getfield 26, 3) := by decide +kernel
theorem dX4_terms_89 : decode cX4_terms 89 = .ok (.aload_n 0, 1) := by decide +kernel
theorem dX4_terms_90 : decode cX4_terms 90 = .ok (.getfield 26, 3) := by decide +kernel
theorem dX4_terms_93 : decode cX4_terms 93 = .ok (.invokevirtual 151, 3) := by decide +kernel
theorem dX4_terms_96 : decode cX4_terms 96 = .ok (.invokevirtual 154, 3) := by decide +kernel
theorem dX4_terms_99 : decode cX4_terms 99 = .ok (.ifCond .eq 7, 3) := by decide +kernel
theorem dX4_terms_102 : decode cX4_terms 102 = .ok (.iconst 1, 1) := by decide +kernel
theorem dX4_terms_103 : decode cX4_terms 103 = .ok (.goto 4, 3) := by decide +kernel
theorem dX4_terms_106 : decode cX4_terms 106 = .ok (.iconst 0, 1) := by decide +kernel
theorem dX4_terms_107 : decode cX4_terms 107 = .ok (.iadd, 1) := by decide +kernel
theorem dX4_terms_108 : decode cX4_terms 108 = .ok (.istore 4, 2) := by decide +kernel
theorem dX4_terms_110 : decode cX4_terms 110 = .ok (.aload_n 0, 1) := by decide +kernel
theorem dX4_terms_111 : decode cX4_terms 111 = .ok (.getfield 26, 3) := by decide +kernel
theorem dX4_terms_114 : decode cX4_terms 114 = .ok (.invokevirtual 108, 3) := by decide +kernel
theorem dX4_terms_117 : decode cX4_terms 117 = .ok (.pop, 1) := by decide +kernel
theorem dX4_terms_118 : decode cX4_terms 118 = .ok (.iinc 5 1, 3) := by decide +kernel
theorem dX4_terms_121 : decode cX4_terms 121 = .ok (.goto (-55), 3) := by decide +kernel
theorem dX4_terms_124 : decode cX4_terms 124 = .ok (.iload_n 3, 1) := by decide +kernel
theorem dX4_terms_125 : decode cX4_terms 125 = .ok (.lookupswitch 71 #[(0, 27), (1, 30)], 27) := by decide +kernel
theorem dX4_terms_152 : decode cX4_terms 152 = .ok (.iload 4, 2) := by decide +kernel
theorem dX4_terms_154 : decode cX4_terms 154 = .ok (.ireturn, 1) := by decide +kernel
theorem dX4_terms_155 : decode cX4_terms 155 = .ok (.aload_n 0, 1) := by decide +kernel
theorem dX4_terms_156 : decode cX4_terms 156 = .ok (.getfield 26, 3) := by decide +kernel
theorem dX4_terms_159 : decode cX4_terms 159 = .ok (.getfield 74, 3) := by decide +kernel
theorem dX4_terms_162 : decode cX4_terms 162 = .ok (.aload_n 0, 1) := by decide +kernel
theorem dX4_terms_163 : decode cX4_terms 163 = .ok (.getfield 26, 3) := by decide +kernel
theorem dX4_terms_166 : decode cX4_terms 166 = .ok (.invokevirtual 151, 3) := by decide +kernel
theorem dX4_terms_169 : decode cX4_terms 169 = .ok (.iaload, 1) := by decide +kernel
theorem dX4_terms_170 : decode cX4_terms 170 = .ok (.iconst (-1), 1) := by decide +kernel
theorem dX4_terms_171 : decode cX4_terms 171 = .ok (.if_icmp .ne 7, 3) := by decide +kernel
theorem dX4_terms_174 : decode cX4_terms 174 = .ok (.iconst 0, 1) := by decide +kernel
theorem dX4_terms_175 : decode cX4_terms 175 = .ok (.goto 20, 3) := by decide +kernel
theorem dX4_terms_178 : decode cX4_terms 178 = .ok (.aload_n 0, 1) := by decide +kernel
theorem dX4_terms_179 : decode cX4_terms 179 = .ok (.getfield 26, 3) := by decide +kernel
theorem dX4_terms_182 : decode cX4_terms 182 = .ok (.getfield 74, 3) := by decide +kernel
theorem dX4_terms_185 : decode cX4_terms 185 = .ok (.aload_n 0, 1) := by decide +kernel
theorem dX4_terms_186 : decode cX4_terms 186 = .ok (.getfield 26, 3) := by decide +kernel
theorem dX4_terms_189 : decode cX4_terms 189 = .ok (.invokevirtual 151, 3) := by decide +kernel
theorem dX4_terms_192 : decode cX4_terms 192 = .ok (.iaload, 1) := by decide +kernel
theorem dX4_terms_193 : decode cX4_terms 193 = .ok (.iconst 1, 1) := by decide +kernel
theorem dX4_terms_194 : decode cX4_terms 194 = .ok (.iadd, 1) := by decide +kernel
theorem dX4_terms_195 : decode cX4_terms 195 = .ok (.ireturn, 1) := by decide +kernel
theorem dX4_terms_196 : decode cX4_terms 196 = .ok (.aload_n 0, 1) := by decide +kernel
theorem dX4_terms_197 : decode cX4_terms 197 = .ok (.getfield 32, 3) := by decide +kernel
theorem dX4_terms_200 : decode cX4_terms 200 = .ok (.getfield 143, 3) := by decide +kernel
theorem dX4_terms_203 : decode cX4_terms 203 = .ok (.l2i, 1) := by decide +kernel
theorem dX4_terms_204 : decode cX4_terms 204 = .ok (.ireturn, 1) := by decide +kernel
set_option maxRecDepth 20000 in
theorem ggX4_image_X3_isNone : GoodIn wsX4_image wsX3_isNone := goodIn_r _ [8, 9, 34, 35, 36, 37, 38, 39, 40, 41, 42, 43, 44] (by decide +kernel) (by decide +kernel)
set_option maxRecDepth 20000 in
theorem gX4_image_X3_isNone : GoodIn wsX4_image (wsV RX4 105 RX3 yX3_isNone wsX3_isNone) := goodIn_app (goodIn_of _ (by decide +kernel)) ggX4_image_X3_isNone
set_option maxRecDepth 20000 in
theorem ggX4_image_X3_copyFrom : GoodIn wsX4_image wsX3_copyFrom := goodIn_r _ [13, 9, 14, 15, 16, 17, 18, 19, 20, 21, 22, 23, 24, 25, 26, 27, 34, 35, 36, 37, 38, 39, 40, 41, 42, 43, 44] (by decide +kernel) (by decide +kernel)
set_option maxRecDepth 20000 in
theorem gX4_image_X3_copyFrom : GoodIn wsX4_image (wsV RX4 139 RX3 yX3_copyFrom wsX3_copyFrom) := goodIn_app (goodIn_of _ (by decide +kernel)) ggX4_image_X3_copyFrom
theorem dX4_image_0 : decode cX4_image 0 = .ok (.aload_n 0, 1) := by decide +kernel
theorem dX4_image_1 : decode cX4_image 1 = .ok (.getfield 19, 3) := by decide +kernel
theorem dX4_image_4 : decode cX4_image 4 = .ok (.invokevirtual 105, 3) := by decide +kernel
theorem dX4_image_7 : decode cX4_image 7 = .ok (.ifCond .eq 6, 3) := by decide +kernel
theorem dX4_image_10 : decode cX4_image 10 = .ok (.bipush (-103), 2) := by decide +kernel
theorem dX4_image_12 : decode cX4_image 12 = .ok (.ireturn, 1) := by decide +kernel
theorem dX4_image_13 : decode cX4_image 13 = .ok (.aload_n 0, 1) := by decide +kernel
theorem dX4_image_14 : decode cX4_image 14 = .ok (.getfield 23, 3) := by decide +kernel
theorem dX4_image_17 : decode cX4_image 17 = .ok (.aload_n 0, 1) := by decide +kernel
theorem dX4_image_18 : decode cX4_image 18 = .ok (.getfield 19, 3) := by decide +kernel
theorem dX4_image_21 : decode cX4_image 21 = .ok (.invokevirtual 139, 3) := by decide +kernel
theorem dX4_image_24 : decode cX4_image 24 = .ok (.aload_n 0, 1) := by decide +kernel
theorem dX4_image_25 : decode cX4_image 25 = .ok (.getfield 23, 3) := by decide +kernel
theorem dX4_image_28 : decode cX4_image 28 = .ok (.getfield 157, 3) := by decide +kernel
theorem dX4_image_31 : decode cX4_image 31 = .ok (.ireturn, 1) := by decide +kernel
set_option maxRecDepth 20000 in
theorem ggX4_restore_X3_isNone : GoodIn wsX4_restore wsX3_isNone := goodIn_r _ [8, 9, 34, 35, 36, 37, 38, 39, 40, 41, 42, 43, 44] (by decide +kernel) (by decide +kernel)
set_option maxRecDepth 20000 in
theorem gX4_restore_X3_isNone : GoodIn wsX4_restore (wsV RX4 105 RX3 yX3_isNone wsX3_isNone) := goodIn_app (goodIn_of _ (by decide +kernel)) ggX4_restore_X3_isNone
set_option maxRecDepth 20000 in
theorem ggX4_restore_X3_copyFrom : GoodIn wsX4_restore wsX3_copyFrom := goodIn_r _ [13, 9, 14, 15, 16, 17, 18, 19, 20, 21, 22, 23, 24, 25, 26, 27, 34, 35, 36, 37, 38, 39, 40, 41, 42, 43, 44] (by decide +kernel) (by decide +kernel)
set_option maxRecDepth 20000 in
theorem gX4_restore_X3_copyFrom : GoodIn wsX4_restore (wsV RX4 139 RX3 yX3_copyFrom wsX3_copyFrom) := goodIn_app (goodIn_of _ (by decide +kernel)) ggX4_restore_X3_copyFrom
theorem dX4_restore_0 : decode cX4_restore 0 = .ok (.aload_n 0, 1) := by decide +kernel
theorem dX4_restore_1 : decode cX4_restore 1 = .ok (.getfield 23, 3) := by decide +kernel
theorem dX4_restore_4 : decode cX4_restore 4 = .ok (.invokevirtual 105, 3) := by decide +kernel
theorem dX4_restore_7 : decode cX4_restore 7 = .ok (.ifCond .eq 6, 3) := by decide +kernel
theorem dX4_restore_10 : decode cX4_restore 10 = .ok (.bipush (-103), 2) := by decide +kernel
theorem dX4_restore_12 : decode cX4_restore 12 = .ok (.ireturn, 1) := by decide +kernel
theorem dX4_restore_13 : decode cX4_restore 13 = .ok (.aload_n 0, 1) := by decide +kernel
theorem dX4_restore_14 : decode cX4_restore 14 = .ok (.getfield 19, 3) := by decide +kernel
theorem dX4_restore_17 : decode cX4_restore 17 = .ok (.aload_n 0, 1) := by decide +kernel
theorem dX4_restore_18 : decode cX4_restore 18 = .ok (.getfield 23, 3) := by decide +kernel
theorem dX4_restore_21 : decode cX4_restore 21 = .ok (.invokevirtual 139, 3) := by decide +kernel
theorem dX4_restore_24 : decode cX4_restore 24 = .ok (.aload_n 0, 1) := by decide +kernel
theorem dX4_restore_25 : decode cX4_restore 25 = .ok (.getfield 19, 3) := by decide +kernel
theorem dX4_restore_28 : decode cX4_restore 28 = .ok (.getfield 157, 3) := by decide +kernel
theorem dX4_restore_31 : decode cX4_restore 31 = .ok (.ireturn, 1) := by decide +kernel
set_option maxRecDepth 20000 in
theorem ggX4_count_X3_knowing : GoodIn wsX4_count wsX3_knowing := goodIn_r _ [13, 14, 15, 60, 61, 62, 63, 64, 65, 66, 67, 68, 69, 70] (by decide +kernel) (by decide +kernel)
set_option maxRecDepth 20000 in
theorem gX4_count_X3_knowing : GoodIn wsX4_count (wsV RX4 160 RX3 yX3_knowing wsX3_knowing) := goodIn_app (goodIn_of _ (by decide +kernel)) ggX4_count_X3_knowing
set_option maxRecDepth 20000 in
theorem ggX4_count_X3_unlikeRules : GoodIn wsX4_count wsX3_unlikeRules := goodIn_r _ [19, 14, 15, 20, 21, 22, 23, 24, 25, 26, 60, 61, 62, 63, 64, 65, 66, 67, 68, 69, 70] (by decide +kernel) (by decide +kernel)
set_option maxRecDepth 20000 in
theorem gX4_count_X3_unlikeRules : GoodIn wsX4_count (wsV RX4 163 RX3 yX3_unlikeRules wsX3_unlikeRules) := goodIn_app (goodIn_of _ (by decide +kernel)) ggX4_count_X3_unlikeRules
set_option maxRecDepth 20000 in
theorem ggX4_count_X3_illOnes : GoodIn wsX4_count wsX3_illOnes := goodIn_r _ [30, 14, 31, 60, 61, 62, 63, 64, 65, 66, 67, 68, 69, 70] (by decide +kernel) (by decide +kernel)
set_option maxRecDepth 20000 in
theorem gX4_count_X3_illOnes : GoodIn wsX4_count (wsV RX4 166 RX3 yX3_illOnes wsX3_illOnes) := goodIn_app (goodIn_of _ (by decide +kernel)) ggX4_count_X3_illOnes
set_option maxRecDepth 20000 in
theorem ggX4_count_X3_isNone : GoodIn wsX4_count wsX3_isNone := goodIn_r _ [35, 14, 60, 61, 62, 63, 64, 65, 66, 67, 68, 69, 70] (by decide +kernel) (by decide +kernel)
set_option maxRecDepth 20000 in
theorem gX4_count_X3_isNone : GoodIn wsX4_count (wsV RX4 105 RX3 yX3_isNone wsX3_isNone) := goodIn_app (goodIn_of _ (by decide +kernel)) ggX4_count_X3_isNone
set_option maxRecDepth 20000 in
theorem ggX4_count_X3_unchangedAtTop : GoodIn wsX4_count wsX3_unchangedAtTop := goodIn_r _ [39, 40, 41, 42, 12, 43, 44, 45, 46, 47, 48, 49, 14, 50, 51, 52, 53, 60, 61, 62, 63, 64, 65, 66, 67, 68, 69, 70] (by decide +kernel) (by decide +kernel)
set_option maxRecDepth 20000 in
theorem gX4_count_X3_unchangedAtTop : GoodIn wsX4_count (wsV RX4 123 RX3 yX3_unchangedAtTop wsX3_unchangedAtTop) := goodIn_app (goodIn_of _ (by decide +kernel)) ggX4_count_X3_unchangedAtTop
theorem dX4_count_0 : decode cX4_count 0 = .ok (.iload_n 1, 1) := by decide +kernel
theorem dX4_count_1 : decode cX4_count 1 = .ok (.tableswitch 147 0 9 #[55, 63, 71, 79, 87, 95, 103, 126, 134, 142], 55) := by decide +kernel
theorem dX4_count_56 : decode cX4_count 56 = .ok (.aload_n 0, 1) := by decide +kernel
theorem dX4_count_57 : decode cX4_count 57 = .ok (.getfield 19, 3) := by decide +kernel
theorem dX4_count_60 : decode cX4_count 60 = .ok (.getfield 62, 3) := by decide +kernel
theorem dX4_count_63 : decode cX4_count 63 = .ok (.ireturn, 1) := by decide +kernel
theorem dX4_count_64 : decode cX4_count 64 = .ok (.aload_n 0, 1) := by decide +kernel
theorem dX4_count_65 : decode cX4_count 65 = .ok (.getfield 19, 3) := by decide +kernel
theorem dX4_count_68 : decode cX4_count 68 = .ok (.invokevirtual 160, 3) := by decide +kernel
theorem dX4_count_71 : decode cX4_count 71 = .ok (.ireturn, 1) := by decide +kernel
theorem dX4_count_72 : decode cX4_count 72 = .ok (.aload_n 0, 1) := by decide +kernel
theorem dX4_count_73 : decode cX4_count 73 = .ok (.getfield 19, 3) := by decide +kernel
theorem dX4_count_76 : decode cX4_count 76 = .ok (.invokevirtual 163, 3) := by decide +kernel
theorem dX4_count_79 : decode cX4_count 79 = .ok (.ireturn, 1) := by decide +kernel
theorem dX4_count_80 : decode cX4_count 80 = .ok (.aload_n 0, 1) := by decide +kernel
theorem dX4_count_81 : decode cX4_count 81 = .ok (.getfield 19, 3) := by decide +kernel
theorem dX4_count_84 : decode cX4_count 84 = .ok (.invokevirtual 166, 3) := by decide +kernel
theorem dX4_count_87 : decode cX4_count 87 = .ok (.ireturn, 1) := by decide +kernel
theorem dX4_count_88 : decode cX4_count 88 = .ok (.aload_n 0, 1) := by decide +kernel
theorem dX4_count_89 : decode cX4_count 89 = .ok (.getfield 19, 3) := by decide +kernel
theorem dX4_count_92 : decode cX4_count 92 = .ok (.getfield 157, 3) := by decide +kernel
theorem dX4_count_95 : decode cX4_count 95 = .ok (.ireturn, 1) := by decide +kernel
theorem dX4_count_96 : decode cX4_count 96 = .ok (.aload_n 0, 1) := by decide +kernel
theorem dX4_count_97 : decode cX4_count 97 = .ok (.getfield 19, 3) := by decide +kernel
theorem dX4_count_100 : decode cX4_count 100 = .ok (.getfield 169, 3) := by decide +kernel
theorem dX4_count_103 : decode cX4_count 103 = .ok (.ireturn, 1) := by decide +kernel
theorem dX4_count_104 : decode cX4_count 104 = .ok (.aload_n 0, 1) := by decide +kernel
theorem dX4_count_105 : decode cX4_count 105 = .ok (.getfield 19, 3) := by decide +kernel
theorem dX4_count_108 : decode cX4_count 108 = .ok (.invokevirtual 105, 3) := by decide +kernel
theorem dX4_count_111 : decode cX4_count 111 = .ok (.ifCond .eq 7, 3) := by decide +kernel
theorem dX4_count_114 : decode cX4_count 114 = .ok (.iconst 0, 1) := by decide +kernel
theorem dX4_count_115 : decode cX4_count 115 = .ok (.goto 11, 3) := by decide +kernel
theorem dX4_count_118 : decode cX4_count 118 = .ok (.aload_n 0, 1) := by decide +kernel
theorem dX4_count_119 : decode cX4_count 119 = .ok (.getfield 19, 3) := by decide +kernel
theorem dX4_count_122 : decode cX4_count 122 = .ok (.iconst (-1), 1) := by decide +kernel
theorem dX4_count_123 : decode cX4_count 123 = .ok (.invokevirtual 123, 3) := by decide +kernel
theorem dX4_count_126 : decode cX4_count 126 = .ok (.ireturn, 1) := by decide +kernel
theorem dX4_count_127 : decode cX4_count 127 = .ok (.aload_n 0, 1) := by decide +kernel
theorem dX4_count_128 : decode cX4_count 128 = .ok (.getfield 19, 3) := by decide +kernel
theorem dX4_count_131 : decode cX4_count 131 = .ok (.getfield 136, 3) := by decide +kernel
theorem dX4_count_134 : decode cX4_count 134 = .ok (.ireturn, 1) := by decide +kernel
theorem dX4_count_135 : decode cX4_count 135 = .ok (.aload_n 0, 1) := by decide +kernel
theorem dX4_count_136 : decode cX4_count 136 = .ok (.getfield 10, 3) := by decide +kernel
theorem dX4_count_139 : decode cX4_count 139 = .ok (.getfield 48, 3) := by decide +kernel
theorem dX4_count_142 : decode cX4_count 142 = .ok (.ireturn, 1) := by decide +kernel
theorem dX4_count_143 : decode cX4_count 143 = .ok (.aload_n 0, 1) := by decide +kernel
theorem dX4_count_144 : decode cX4_count 144 = .ok (.getfield 36, 3) := by decide +kernel
theorem dX4_count_147 : decode cX4_count 147 = .ok (.ireturn, 1) := by decide +kernel
theorem dX4_count_148 : decode cX4_count 148 = .ok (.bipush (-102), 2) := by decide +kernel
theorem dX4_count_150 : decode cX4_count 150 = .ok (.ireturn, 1) := by decide +kernel
set_option maxRecDepth 20000 in
theorem ggX4_digest_X4_withChild : GoodIn wsX4_digest wsX4_withChild := goodIn_r _ [11, 12, 13, 14, 10, 15, 2, 16, 17, 18, 19, 20, 21, 22, 23, 24, 25, 26, 27, 28, 29, 30, 31, 32, 33, 34, 35, 36, 37, 38, 39, 40, 41, 42, 43, 44, 45, 46, 47, 48, 49, 50, 51, 52, 53, 54, 55, 56, 57, 58, 59, 60, 61, 62, 63, 64, 65, 66, 67, 68, 69, 70, 71, 72, 73, 74, 75, 76, 77, 78, 79, 80, 81, 82, 83, 84, 85, 86, 87, 88, 89, 90, 91, 92, 93, 94, 95, 96, 150, 151, 152, 153, 154, 155, 156, 157, 158, 159, 160, 161, 162, 163, 164, 165, 166] (by decide +kernel) (by decide +kernel)
set_option maxRecDepth 20000 in
theorem gX4_digest_X4_withChild : GoodIn wsX4_digest (wsV RX4 174 RX4 yX4_withChild wsX4_withChild) := goodIn_app (goodIn_of _ (by decide +kernel)) ggX4_digest_X4_withChild
set_option maxRecDepth 20000 in
theorem ggX4_digest_X3_isNone : GoodIn wsX4_digest wsX3_isNone := goodIn_r _ [100, 25, 156, 157, 158, 159, 160, 161, 162, 163, 164, 165, 166] (by decide +kernel) (by decide +kernel)
set_option maxRecDepth 20000 in
theorem gX4_digest_X3_isNone : GoodIn wsX4_digest (wsV RX4 105 RX3 yX3_isNone wsX3_isNone) := goodIn_app (goodIn_of _ (by decide +kernel)) ggX4_digest_X3_isNone
set_option maxRecDepth 20000 in
theorem ggX4_digest_X4_soon : GoodIn wsX4_digest wsX4_soon := goodIn_r _ [104, 2, 97, 98, 99, 23, 100, 25, 105, 106, 107, 108, 30, 31, 109, 84, 85, 86, 87, 150, 151, 152, 153, 154, 155, 156, 157, 158, 159, 160, 161, 162, 163, 164, 165, 166] (by decide +kernel) (by decide +kernel)
set_option maxRecDepth 20000 in
theorem gX4_digest_X4_soon : GoodIn wsX4_digest (wsV RX4 178 RX4 yX4_soon wsX4_soon) := goodIn_app (goodIn_of _ (by decide +kernel)) ggX4_digest_X4_soon
set_option maxRecDepth 20000 in
theorem ggX4_digest_X4_with : GoodIn wsX4_digest wsX4_with := goodIn_r _ [67, 68] (by decide +kernel) (by decide +kernel)
set_option maxRecDepth 20000 in
theorem gX4_digest_X4_with : GoodIn wsX4_digest (va_wsS RX4 181 yX4_with wsX4_with) := goodIn_app (goodIn_of _ (by decide +kernel)) ggX4_digest_X4_with
set_option maxRecDepth 20000 in
theorem ggX4_digest_X4_cure : GoodIn wsX4_digest wsX4_cure := goodIn_r _ [113, 2, 97, 98, 99, 23, 100, 25, 114, 115, 116, 117, 118, 119, 120, 121, 96, 81, 82, 83, 32, 33, 84, 85, 86, 87, 34, 35, 36, 37, 122, 150, 151, 152, 153, 154, 155, 156, 157, 158, 159, 160, 161, 162, 163, 164, 165, 166] (by decide +kernel) (by decide +kernel)
set_option maxRecDepth 20000 in
theorem gX4_digest_X4_cure : GoodIn wsX4_digest (wsV RX4 185 RX4 yX4_cure wsX4_cure) := goodIn_app (goodIn_of _ (by decide +kernel)) ggX4_digest_X4_cure
set_option maxRecDepth 20000 in
theorem ggX4_digest_X4_count : GoodIn wsX4_digest wsX4_count := goodIn_r _ [126, 2, 3, 127, 128, 129, 4, 5, 130, 131, 132, 133, 23, 134, 25, 30, 135, 136, 137, 138, 139, 140, 141, 142, 143, 144, 145, 146, 147, 148, 149, 31, 97, 98, 99, 100, 122, 119, 120, 121, 96, 81, 82, 83, 32, 33, 84, 85, 86, 87, 34, 35, 36, 37, 150, 151, 152, 153, 154, 155, 156, 157, 158, 159, 160, 161, 162, 163, 164, 165, 166, 167, 168] (by decide +kernel) (by decide +kernel)
set_option maxRecDepth 20000 in
theorem gX4_digest_X4_count : GoodIn wsX4_digest (wsV RX4 191 RX4 yX4_count wsX4_count) := goodIn_app (goodIn_of _ (by decide +kernel)) ggX4_digest_X4_count
theorem dX4_digest_0 : decode cX4_digest 0 = .ok (.ldc2_w 172, 3) := by decide +kernel
theorem dX4_digest_3 : decode cX4_digest 3 = .ok (.lstore_n 1, 1) := by decide +kernel
theorem dX4_digest_4 : decode cX4_digest 4 = .ok (.iconst 0, 1) := by decide +kernel
theorem dX4_digest_5 : decode cX4_digest 5 = .ok (.istore_n 3, 1) := by decide +kernel
theorem dX4_digest_6 : decode cX4_digest 6 = .ok (.iload_n 3, 1) := by decide +kernel
theorem dX4_digest_7 : decode cX4_digest 7 = .ok (.aload_n 0, 1) := by decide +kernel
theorem dX4_digest_8 : decode cX4_digest 8 = .ok (.getfield 19, 3) := by decide +kernel
theorem dX4_digest_11 : decode cX4_digest 11 = .ok (.getfield 62, 3) := by decide +kernel
theorem dX4_digest_14 : decode cX4_digest 14 = .ok (.if_icmp .ge 16, 3) := by decide +kernel
theorem dX4_digest_17 : decode cX4_digest 17 = .ok (.aload_n 0, 1) := by decide +kernel
theorem dX4_digest_18 : decode cX4_digest 18 = .ok (.lload_n 1, 1) := by decide +kernel
theorem dX4_digest_19 : decode cX4_digest 19 = .ok (.iload_n 3, 1) := by decide +kernel
theorem dX4_digest_20 : decode cX4_digest 20 = .ok (.invokevirtual 174, 3) := by decide +kernel
theorem dX4_digest_23 : decode cX4_digest 23 = .ok (.lstore_n 1, 1) := by decide +kernel
theorem dX4_digest_24 : decode cX4_digest 24 = .ok (.iinc 3 1, 3) := by decide +kernel
theorem dX4_digest_27 : decode cX4_digest 27 = .ok (.goto (-21), 3) := by decide +kernel
theorem dX4_digest_30 : decode cX4_digest 30 = .ok (.aload_n 0, 1) := by decide +kernel
theorem dX4_digest_31 : decode cX4_digest 31 = .ok (.getfield 19, 3) := by decide +kernel
theorem dX4_digest_34 : decode cX4_digest 34 = .ok (.invokevirtual 105, 3) := by decide +kernel
theorem dX4_digest_37 : decode cX4_digest 37 = .ok (.ifCond .ne 35, 3) := by decide +kernel
theorem dX4_digest_40 : decode cX4_digest 40 = .ok (.lload_n 1, 1) := by decide +kernel
theorem dX4_digest_41 : decode cX4_digest 41 = .ok (.aload_n 0, 1) := by decide +kernel
theorem dX4_digest_42 : decode cX4_digest 42 = .ok (.invokevirtual 178, 3) := by decide +kernel
theorem dX4_digest_45 : decode cX4_digest 45 = .ok (.i2l, 1) := by decide +kernel
theorem dX4_digest_46 : decode cX4_digest 46 = .ok (.invokestatic 181, 3) := by decide +kernel
theorem dX4_digest_49 : decode cX4_digest 49 = .ok (.lstore_n 1, 1) := by decide +kernel
theorem dX4_digest_50 : decode cX4_digest 50 = .ok (.lload_n 1, 1) := by decide +kernel
theorem dX4_digest_51 : decode cX4_digest 51 = .ok (.aload_n 0, 1) := by decide +kernel
theorem dX4_digest_52 : decode cX4_digest 52 = .ok (.iconst 0, 1) := by decide +kernel
theorem dX4_digest_53 : decode cX4_digest 53 = .ok (.invokevirtual 185, 3) := by decide +kernel
theorem dX4_digest_56 : decode cX4_digest 56 = .ok (.i2l, 1) := by decide +kernel
theorem dX4_digest_57 : decode cX4_digest 57 = .ok (.invokestatic 181, 3) := by decide +kernel
theorem dX4_digest_60 : decode cX4_digest 60 = .ok (.lstore_n 1, 1) := by decide +kernel
theorem dX4_digest_61 : decode cX4_digest 61 = .ok (.lload_n 1, 1) := by decide +kernel
theorem dX4_digest_62 : decode cX4_digest 62 = .ok (.aload_n 0, 1) := by decide +kernel
theorem dX4_digest_63 : decode cX4_digest 63 = .ok (.iconst 1, 1) := by decide +kernel
theorem dX4_digest_64 : decode cX4_digest 64 = .ok (.invokevirtual 185, 3) := by decide +kernel
theorem dX4_digest_67 : decode cX4_digest 67 = .ok (.i2l, 1) := by decide +kernel
theorem dX4_digest_68 : decode cX4_digest 68 = .ok (.invokestatic 181, 3) := by decide +kernel
theorem dX4_digest_71 : decode cX4_digest 71 = .ok (.lstore_n 1, 1) := by decide +kernel
theorem dX4_digest_72 : decode cX4_digest 72 = .ok (.iconst 0, 1) := by decide +kernel
theorem dX4_digest_73 : decode cX4_digest 73 = .ok (.istore_n 3, 1) := by decide +kernel
theorem dX4_digest_74 : decode cX4_digest 74 = .ok (.iload_n 3, 1) := by decide +kernel
theorem dX4_digest_75 : decode cX4_digest 75 = .ok (.aload_n 0, 1) := by decide +kernel
theorem dX4_digest_76 : decode cX4_digest 76 = .ok (.getfield 10, 3) := by decide +kernel
theorem dX4_digest_79 : decode cX4_digest 79 = .ok (.getfield 48, 3) := by decide +kernel
theorem dX4_digest_82 : decode cX4_digest 82 = .ok (.if_icmp .ge 24, 3) := by decide +kernel
theorem dX4_digest_85 : decode cX4_digest 85 = .ok (.lload_n 1, 1) := by decide +kernel
theorem dX4_digest_86 : decode cX4_digest 86 = .ok (.aload_n 0, 1) := by decide +kernel
theorem dX4_digest_87 : decode cX4_digest 87 = .ok (.getfield 10, 3) := by decide +kernel
theorem dX4_digest_90 : decode cX4_digest 90 = .ok (.getfield 188, 3) := by decide +kernel
theorem dX4_digest_93 : decode cX4_digest 93 = .ok (.iload_n 3, 1) := by decide +kernel
theorem dX4_digest_94 : decode cX4_digest 94 = .ok (.iaload, 1) := by decide +kernel
theorem dX4_digest_95 : decode cX4_digest 95 = .ok (.i2l, 1) := by decide +kernel
theorem dX4_digest_96 : decode cX4_digest 96 = .ok (.invokestatic 181, 3) := by decide +kernel
theorem dX4_digest_99 : decode cX4_digest 99 = .ok (.lstore_n 1, 1) := by decide +kernel
theorem dX4_digest_100 : decode cX4_digest 100 = .ok (.iinc 3 1, 3) := by decide +kernel
theorem dX4_digest_103 : decode cX4_digest 103 = .ok (.goto (-29), 3) := by decide +kernel
theorem dX4_digest_106 : decode cX4_digest 106 = .ok (.iconst 0, 1) := by decide +kernel
theorem dX4_digest_107 : decode cX4_digest 107 = .ok (.istore_n 3, 1) := by decide +kernel
theorem dX4_digest_108 : decode cX4_digest 108 = .ok (.iload_n 3, 1) := by decide +kernel
theorem dX4_digest_109 : decode cX4_digest 109 = .ok (.bipush 9, 2) := by decide +kernel
theorem dX4_digest_111 : decode cX4_digest 111 = .ok (.if_icmp .gt 20, 3) := by decide +kernel
theorem dX4_digest_114 : decode cX4_digest 114 = .ok (.lload_n 1, 1) := by decide +kernel
theorem dX4_digest_115 : decode cX4_digest 115 = .ok (.aload_n 0, 1) := by decide +kernel
theorem dX4_digest_116 : decode cX4_digest 116 = .ok (.iload_n 3, 1) := by decide +kernel
theorem dX4_digest_117 : decode cX4_digest 117 = .ok (.invokevirtual 191, 3) := by decide +kernel
theorem dX4_digest_120 : decode cX4_digest 120 = .ok (.i2l, 1) := by decide +kernel
theorem dX4_digest_121 : decode cX4_digest 121 = .ok (.invokestatic 181, 3) := by decide +kernel
theorem dX4_digest_124 : decode cX4_digest 124 = .ok (.lstore_n 1, 1) := by decide +kernel
theorem dX4_digest_125 : decode cX4_digest 125 = .ok (.iinc 3 1, 3) := by decide +kernel
theorem dX4_digest_128 : decode cX4_digest 128 = .ok (.goto (-20), 3) := by decide +kernel
theorem dX4_digest_131 : decode cX4_digest 131 = .ok (.lload_n 1, 1) := by decide +kernel
theorem dX4_digest_132 : decode cX4_digest 132 = .ok (.lreturn, 1) := by decide +kernel
set_option maxRecDepth 20000 in
theorem ggX4_withChild_X4_child : GoodIn wsX4_withChild wsX4_child := goodIn_r _ [5, 6, 7, 8, 9, 10, 11, 12, 13, 14, 15, 16, 17, 18, 19, 20, 21, 22, 23, 24, 25, 26, 27, 28, 29, 30, 31, 32, 33, 34, 35, 36, 37, 38, 39, 40, 41, 42, 43, 44, 45, 46, 47, 48, 49, 50, 51, 52, 53, 54, 55, 88, 89, 90, 91, 92, 93, 94, 95, 96, 97, 98, 99, 100, 101, 102, 103, 104] (by decide +kernel) (by decide +kernel)
set_option maxRecDepth 20000 in
theorem gX4_withChild_X4_child : GoodIn wsX4_withChild (wsV RX4 194 RX4 yX4_child wsX4_child) := goodIn_app (goodIn_of _ (by decide +kernel)) ggX4_withChild_X4_child
set_option maxRecDepth 20000 in
theorem ggX4_withChild_X4_with : GoodIn wsX4_withChild wsX4_with := goodIn_r _ [58, 59] (by decide +kernel) (by decide +kernel)
set_option maxRecDepth 20000 in
theorem gX4_withChild_X4_with : GoodIn wsX4_withChild (va_wsS RX4 181 yX4_with wsX4_with) := goodIn_app (goodIn_of _ (by decide +kernel)) ggX4_withChild_X4_with
set_option maxRecDepth 20000 in
theorem ggX4_withChild_X4_arrives : GoodIn wsX4_withChild wsX4_arrives := goodIn_r _ [63, 6, 64, 65, 66, 4, 67, 11, 12, 13, 14, 15, 16, 68, 69, 70, 71, 72, 73, 74, 23, 24, 75, 76, 77, 78, 25, 26, 27, 28, 88, 89, 90, 91, 92, 93, 94, 95, 96, 97, 98, 99, 100, 101, 102, 103, 104] (by decide +kernel) (by decide +kernel)
set_option maxRecDepth 20000 in
theorem gX4_withChild_X4_arrives : GoodIn wsX4_withChild (wsV RX4 197 RX4 yX4_arrives wsX4_arrives) := goodIn_app (goodIn_of _ (by decide +kernel)) ggX4_withChild_X4_arrives
set_option maxRecDepth 20000 in
theorem ggX4_withChild_X4_from : GoodIn wsX4_withChild wsX4_from := goodIn_r _ [82, 6, 64, 65, 66, 4, 67, 11, 12, 13, 14, 15, 16, 68, 69, 70, 83, 84, 85, 86, 87, 72, 73, 74, 23, 24, 75, 76, 77, 78, 25, 26, 27, 28, 88, 89, 90, 91, 92, 93, 94, 95, 96, 97, 98, 99, 100, 101, 102, 103, 104] (by decide +kernel) (by decide +kernel)
set_option maxRecDepth 20000 in
theorem gX4_withChild_X4_from : GoodIn wsX4_withChild (wsV RX4 200 RX4 yX4_from wsX4_from) := goodIn_app (goodIn_of _ (by decide +kernel)) ggX4_withChild_X4_from
theorem dX4_withChild_0 : decode cX4_withChild 0 = .ok (.lload_n 1, 1) := by decide +kernel
theorem dX4_withChild_1 : decode cX4_withChild 1 = .ok (.lstore 4, 2) := by decide +kernel
theorem dX4_withChild_3 : decode cX4_withChild 3 = .ok (.iconst 0, 1) := by decide +kernel
theorem dX4_withChild_4 : decode cX4_withChild 4 = .ok (.istore 6, 2) := by decide +kernel
theorem dX4_withChild_6 : decode cX4_withChild 6 = .ok (.iload 6, 2) := by decide +kernel
theorem dX4_withChild_8 : decode cX4_withChild 8 = .ok (.bipush 6, 2) := by decide +kernel
theorem dX4_withChild_10 : decode cX4_withChild 10 = .ok (.if_icmp .gt 24, 3) := by decide +kernel
theorem dX4_withChild_13 : decode cX4_withChild 13 = .ok (.lload 4, 2) := by decide +kernel
theorem dX4_withChild_15 : decode cX4_withChild 15 = .ok (.aload_n 0, 1) := by decide +kernel
theorem dX4_withChild_16 : decode cX4_withChild 16 = .ok (.iload_n 3, 1) := by decide +kernel
theorem dX4_withChild_17 : decode cX4_withChild 17 = .ok (.iload 6, 2) := by decide +kernel
theorem dX4_withChild_19 : decode cX4_withChild 19 = .ok (.invokevirtual 194, 3) := by decide +kernel
theorem dX4_withChild_22 : decode cX4_withChild 22 = .ok (.i2l, 1) := by decide +kernel
theorem dX4_withChild_23 : decode cX4_withChild 23 = .ok (.invokestatic 181, 3) := by decide +kernel
theorem dX4_withChild_26 : decode cX4_withChild 26 = .ok (.lstore 4, 2) := by decide +kernel
theorem dX4_withChild_28 : decode cX4_withChild 28 = .ok (.iinc 6 1, 3) := by decide +kernel
theorem dX4_withChild_31 : decode cX4_withChild 31 = .ok (.goto (-25), 3) := by decide +kernel
theorem dX4_withChild_34 : decode cX4_withChild 34 = .ok (.lload 4, 2) := by decide +kernel
theorem dX4_withChild_36 : decode cX4_withChild 36 = .ok (.aload_n 0, 1) := by decide +kernel
theorem dX4_withChild_37 : decode cX4_withChild 37 = .ok (.iload_n 3, 1) := by decide +kernel
theorem dX4_withChild_38 : decode cX4_withChild 38 = .ok (.iconst 0, 1) := by decide +kernel
theorem dX4_withChild_39 : decode cX4_withChild 39 = .ok (.invokevirtual 197, 3) := by decide +kernel
theorem dX4_withChild_42 : decode cX4_withChild 42 = .ok (.i2l, 1) := by decide +kernel
theorem dX4_withChild_43 : decode cX4_withChild 43 = .ok (.invokestatic 181, 3) := by decide +kernel
theorem dX4_withChild_46 : decode cX4_withChild 46 = .ok (.lstore 4, 2) := by decide +kernel
theorem dX4_withChild_48 : decode cX4_withChild 48 = .ok (.lload 4, 2) := by decide +kernel
theorem dX4_withChild_50 : decode cX4_withChild 50 = .ok (.aload_n 0, 1) := by decide +kernel
theorem dX4_withChild_51 : decode cX4_withChild 51 = .ok (.iload_n 3, 1) := by decide +kernel
theorem dX4_withChild_52 : decode cX4_withChild 52 = .ok (.iconst 1, 1) := by decide +kernel
theorem dX4_withChild_53 : decode cX4_withChild 53 = .ok (.invokevirtual 197, 3) := by decide +kernel
theorem dX4_withChild_56 : decode cX4_withChild 56 = .ok (.i2l, 1) := by decide +kernel
theorem dX4_withChild_57 : decode cX4_withChild 57 = .ok (.invokestatic 181, 3) := by decide +kernel
theorem dX4_withChild_60 : decode cX4_withChild 60 = .ok (.lstore 4, 2) := by decide +kernel
theorem dX4_withChild_62 : decode cX4_withChild 62 = .ok (.lload 4, 2) := by decide +kernel
theorem dX4_withChild_64 : decode cX4_withChild 64 = .ok (.aload_n 0, 1) := by decide +kernel
theorem dX4_withChild_65 : decode cX4_withChild 65 = .ok (.iload_n 3, 1) := by decide +kernel
theorem dX4_withChild_66 : decode cX4_withChild 66 = .ok (.iconst 5, 1) := by decide +kernel
theorem dX4_withChild_67 : decode cX4_withChild 67 = .ok (.invokevirtual 197, 3) := by decide +kernel
theorem dX4_withChild_70 : decode cX4_withChild 70 = .ok (.i2l, 1) := by decide +kernel
theorem dX4_withChild_71 : decode cX4_withChild 71 = .ok (.invokestatic 181, 3) := by decide +kernel
theorem dX4_withChild_74 : decode cX4_withChild 74 = .ok (.lstore 4, 2) := by decide +kernel
theorem dX4_withChild_76 : decode cX4_withChild 76 = .ok (.lload 4, 2) := by decide +kernel
theorem dX4_withChild_78 : decode cX4_withChild 78 = .ok (.aload_n 0, 1) := by decide +kernel
theorem dX4_withChild_79 : decode cX4_withChild 79 = .ok (.iload_n 3, 1) := by decide +kernel
theorem dX4_withChild_80 : decode cX4_withChild 80 = .ok (.iconst 3, 1) := by decide +kernel
theorem dX4_withChild_81 : decode cX4_withChild 81 = .ok (.invokevirtual 200, 3) := by decide +kernel
theorem dX4_withChild_84 : decode cX4_withChild 84 = .ok (.i2l, 1) := by decide +kernel
theorem dX4_withChild_85 : decode cX4_withChild 85 = .ok (.invokestatic 181, 3) := by decide +kernel
theorem dX4_withChild_88 : decode cX4_withChild 88 = .ok (.lreturn, 1) := by decide +kernel
theorem dX4_with_0 : decode cX4_with 0 = .ok (.ldc2_w 203, 3) := by decide +kernel
theorem dX4_with_3 : decode cX4_with 3 = .ok (.lload_n 0, 1) := by decide +kernel
theorem dX4_with_4 : decode cX4_with 4 = .ok (.lmul, 1) := by decide +kernel
theorem dX4_with_5 : decode cX4_with 5 = .ok (.lload_n 2, 1) := by decide +kernel
theorem dX4_with_6 : decode cX4_with 6 = .ok (.ladd, 1) := by decide +kernel
theorem dX4_with_7 : decode cX4_with 7 = .ok (.lreturn, 1) := by decide +kernel
set_option maxRecDepth 20000 in
theorem ggX4_refusalOf_X3_has : GoodIn wsX4_refusalOf wsX3_has := goodIn_r _ [6, 7, 18, 19, 20, 21, 22, 23, 24, 25, 26, 27, 28] (by decide +kernel) (by decide +kernel)
set_option maxRecDepth 20000 in
theorem gX4_refusalOf_X3_has : GoodIn wsX4_refusalOf (wsV RX4 63 RX3 yX3_has wsX3_has) := goodIn_app (goodIn_of _ (by decide +kernel)) ggX4_refusalOf_X3_has
set_option maxRecDepth 20000 in
theorem ggX4_refusalOf_X4_isRule : GoodIn wsX4_refusalOf wsX4_isRule := goodIn_r _ [11] (by decide +kernel) (by decide +kernel)
set_option maxRecDepth 20000 in
theorem gX4_refusalOf_X4_isRule : GoodIn wsX4_refusalOf (va_wsS RX4 126 yX4_isRule wsX4_isRule) := goodIn_app (goodIn_of _ (by decide +kernel)) ggX4_refusalOf_X4_isRule
theorem dX4_refusalOf_0 : decode cX4_refusalOf 0 = .ok (.aload_n 0, 1) := by decide +kernel
theorem dX4_refusalOf_1 : decode cX4_refusalOf 1 = .ok (.getfield 19, 3) := by decide +kernel
theorem dX4_refusalOf_4 : decode cX4_refusalOf 4 = .ok (.iload_n 1, 1) := by decide +kernel
theorem dX4_refusalOf_5 : decode cX4_refusalOf 5 = .ok (.invokevirtual 63, 3) := by decide +kernel
theorem dX4_refusalOf_8 : decode cX4_refusalOf 8 = .ok (.ifCond .ne 6, 3) := by decide +kernel
theorem dX4_refusalOf_11 : decode cX4_refusalOf 11 = .ok (.bipush (-101), 2) := by decide +kernel
theorem dX4_refusalOf_13 : decode cX4_refusalOf 13 = .ok (.ireturn, 1) := by decide +kernel
theorem dX4_refusalOf_14 : decode cX4_refusalOf 14 = .ok (.iload_n 2, 1) := by decide +kernel
theorem dX4_refusalOf_15 : decode cX4_refusalOf 15 = .ok (.invokestatic 126, 3) := by decide +kernel
theorem dX4_refusalOf_18 : decode cX4_refusalOf 18 = .ok (.ifCond .eq 7, 3) := by decide +kernel
theorem dX4_refusalOf_21 : decode cX4_refusalOf 21 = .ok (.iconst 0, 1) := by decide +kernel
theorem dX4_refusalOf_22 : decode cX4_refusalOf 22 = .ok (.goto 5, 3) := by decide +kernel
theorem dX4_refusalOf_25 : decode cX4_refusalOf 25 = .ok (.bipush (-102), 2) := by decide +kernel
theorem dX4_refusalOf_27 : decode cX4_refusalOf 27 = .ok (.ireturn, 1) := by decide +kernel
theorem dX4_isRule_0 : decode cX4_isRule 0 = .ok (.iload_n 0, 1) := by decide +kernel
theorem dX4_isRule_1 : decode cX4_isRule 1 = .ok (.ifCond .lt 13, 3) := by decide +kernel
theorem dX4_isRule_4 : decode cX4_isRule 4 = .ok (.iload_n 0, 1) := by decide +kernel
theorem dX4_isRule_5 : decode cX4_isRule 5 = .ok (.bipush 12, 2) := by decide +kernel
theorem dX4_isRule_7 : decode cX4_isRule 7 = .ok (.if_icmp .ge 7, 3) := by decide +kernel
theorem dX4_isRule_10 : decode cX4_isRule 10 = .ok (.iconst 1, 1) := by decide +kernel
theorem dX4_isRule_11 : decode cX4_isRule 11 = .ok (.goto 4, 3) := by decide +kernel
theorem dX4_isRule_14 : decode cX4_isRule 14 = .ok (.iconst 0, 1) := by decide +kernel
theorem dX4_isRule_15 : decode cX4_isRule 15 = .ok (.ireturn, 1) := by decide +kernel
end
section
theorem dX5_init_0 : decode cX5_init 0 = .ok (.aload_n 0, 1) := by decide +kernel
theorem dX5_init_1 : decode cX5_init 1 = .ok (.invokespecial 1, 3) := by decide +kernel
theorem dX5_init_4 : decode cX5_init 4 = .ok (.aload_n 0, 1) := by decide +kernel
theorem dX5_init_5 : decode cX5_init 5 = .ok (.bipush 20, 2) := by decide +kernel
theorem dX5_init_7 : decode cX5_init 7 = .ok (.newarray .int, 2) := by decide +kernel
theorem dX5_init_9 : decode cX5_init 9 = .ok (.putfield 7, 3) := by decide +kernel
theorem dX5_init_12 : decode cX5_init 12 = .ok (.aload_n 0, 1) := by decide +kernel
theorem dX5_init_13 : decode cX5_init 13 = .ok (.bipush 24, 2) := by decide +kernel
theorem dX5_init_15 : decode cX5_init 15 = .ok (.newarray .int, 2) := by decide +kernel
theorem dX5_init_17 : decode cX5_init 17 = .ok (.putfield 13, 3) := by decide +kernel
theorem dX5_init_20 : decode cX5_init 20 = .ok (.aload_n 0, 1) := by decide +kernel
theorem dX5_init_21 : decode cX5_init 21 = .ok (.bipush 24, 2) := by decide +kernel
theorem dX5_init_23 : decode cX5_init 23 = .ok (.newarray .int, 2) := by decide +kernel
theorem dX5_init_25 : decode cX5_init 25 = .ok (.putfield 16, 3) := by decide +kernel
theorem dX5_init_28 : decode cX5_init 28 = .ok (.aload_n 0, 1) := by decide +kernel
theorem dX5_init_29 : decode cX5_init 29 = .ok (.bipush 12, 2) := by decide +kernel
theorem dX5_init_31 : decode cX5_init 31 = .ok (.newarray .int, 2) := by decide +kernel
theorem dX5_init_33 : decode cX5_init 33 = .ok (.putfield 19, 3) := by decide +kernel
theorem dX5_init_36 : decode cX5_init 36 = .ok (.aload_n 0, 1) := by decide +kernel
theorem dX5_init_37 : decode cX5_init 37 = .ok (.bipush 24, 2) := by decide +kernel
theorem dX5_init_39 : decode cX5_init 39 = .ok (.newarray .int, 2) := by decide +kernel
theorem dX5_init_41 : decode cX5_init 41 = .ok (.putfield 22, 3) := by decide +kernel
theorem dX5_init_44 : decode cX5_init 44 = .ok (.aload_n 0, 1) := by decide +kernel
theorem dX5_init_45 : decode cX5_init 45 = .ok (.bipush 24, 2) := by decide +kernel
theorem dX5_init_47 : decode cX5_init 47 = .ok (.newarray .int, 2) := by decide +kernel
theorem dX5_init_49 : decode cX5_init 49 = .ok (.putfield 25, 3) := by decide +kernel
theorem dX5_init_52 : decode cX5_init 52 = .ok (.aload_n 0, 1) := by decide +kernel
theorem dX5_init_53 : decode cX5_init 53 = .ok (.bipush 24, 2) := by decide +kernel
theorem dX5_init_55 : decode cX5_init 55 = .ok (.newarray .int, 2) := by decide +kernel
theorem dX5_init_57 : decode cX5_init 57 = .ok (.putfield 28, 3) := by decide +kernel
theorem dX5_init_60 : decode cX5_init 60 = .ok (.aload_n 0, 1) := by decide +kernel
theorem dX5_init_61 : decode cX5_init 61 = .ok (.iconst (-1), 1) := by decide +kernel
theorem dX5_init_62 : decode cX5_init 62 = .ok (.putfield 31, 3) := by decide +kernel
theorem dX5_init_65 : decode cX5_init 65 = .ok (.return_, 1) := by decide +kernel
theorem dX5_in_0 : decode cX5_in 0 = .ok (.lload_n 0, 1) := by decide +kernel
theorem dX5_in_1 : decode cX5_in 1 = .ok (.lload_n 2, 1) := by decide +kernel
theorem dX5_in_2 : decode cX5_in 2 = .ok (.lcmp, 1) := by decide +kernel
theorem dX5_in_3 : decode cX5_in 3 = .ok (.ifCond .lt 14, 3) := by decide +kernel
theorem dX5_in_6 : decode cX5_in 6 = .ok (.lload_n 0, 1) := by decide +kernel
theorem dX5_in_7 : decode cX5_in 7 = .ok (.lload 4, 2) := by decide +kernel
theorem dX5_in_9 : decode cX5_in 9 = .ok (.lcmp, 1) := by decide +kernel
theorem dX5_in_10 : decode cX5_in 10 = .ok (.ifCond .gt 7, 3) := by decide +kernel
theorem dX5_in_13 : decode cX5_in 13 = .ok (.iconst 1, 1) := by decide +kernel
theorem dX5_in_14 : decode cX5_in 14 = .ok (.goto 4, 3) := by decide +kernel
theorem dX5_in_17 : decode cX5_in 17 = .ok (.iconst 0, 1) := by decide +kernel
theorem dX5_in_18 : decode cX5_in 18 = .ok (.ireturn, 1) := by decide +kernel
theorem dX5_copy_0 : decode cX5_copy 0 = .ok (.iconst 0, 1) := by decide +kernel
theorem dX5_copy_1 : decode cX5_copy 1 = .ok (.istore_n 2, 1) := by decide +kernel
theorem dX5_copy_2 : decode cX5_copy 2 = .ok (.iload_n 2, 1) := by decide +kernel
theorem dX5_copy_3 : decode cX5_copy 3 = .ok (.aload_n 0, 1) := by decide +kernel
theorem dX5_copy_4 : decode cX5_copy 4 = .ok (.arraylength, 1) := by decide +kernel
theorem dX5_copy_5 : decode cX5_copy 5 = .ok (.if_icmp .ge 15, 3) := by decide +kernel
theorem dX5_copy_8 : decode cX5_copy 8 = .ok (.aload_n 1, 1) := by decide +kernel
theorem dX5_copy_9 : decode cX5_copy 9 = .ok (.iload_n 2, 1) := by decide +kernel
theorem dX5_copy_10 : decode cX5_copy 10 = .ok (.aload_n 0, 1) := by decide +kernel
theorem dX5_copy_11 : decode cX5_copy 11 = .ok (.iload_n 2, 1) := by decide +kernel
theorem dX5_copy_12 : decode cX5_copy 12 = .ok (.iaload, 1) := by decide +kernel
theorem dX5_copy_13 : decode cX5_copy 13 = .ok (.iastore, 1) := by decide +kernel
theorem dX5_copy_14 : decode cX5_copy 14 = .ok (.iinc 2 1, 3) := by decide +kernel
theorem dX5_copy_17 : decode cX5_copy 17 = .ok (.goto (-15), 3) := by decide +kernel
theorem dX5_copy_20 : decode cX5_copy 20 = .ok (.return_, 1) := by decide +kernel
set_option maxRecDepth 20000 in
theorem ggX5_letter_X5_in : GoodIn wsX5_letter wsX5_in := goodIn_r _ [7] (by decide +kernel) (by decide +kernel)
set_option maxRecDepth 20000 in
theorem gX5_letter_X5_in : GoodIn wsX5_letter (va_wsS RX5 37 yX5_in wsX5_in) := goodIn_app (goodIn_of _ (by decide +kernel)) ggX5_letter_X5_in
theorem dX5_letter_0 : decode cX5_letter 0 = .ok (.iload_n 1, 1) := by decide +kernel
theorem dX5_letter_1 : decode cX5_letter 1 = .ok (.i2l, 1) := by decide +kernel
theorem dX5_letter_2 : decode cX5_letter 2 = .ok (.lconst 1, 1) := by decide +kernel
theorem dX5_letter_3 : decode cX5_letter 3 = .ok (.ldc2_w 35, 3) := by decide +kernel
theorem dX5_letter_6 : decode cX5_letter 6 = .ok (.invokestatic 37, 3) := by decide +kernel
theorem dX5_letter_9 : decode cX5_letter 9 = .ok (.ifCond .ne 6, 3) := by decide +kernel
theorem dX5_letter_12 : decode cX5_letter 12 = .ok (.bipush (-102), 2) := by decide +kernel
theorem dX5_letter_14 : decode cX5_letter 14 = .ok (.ireturn, 1) := by decide +kernel
theorem dX5_letter_15 : decode cX5_letter 15 = .ok (.aload_n 0, 1) := by decide +kernel
theorem dX5_letter_16 : decode cX5_letter 16 = .ok (.getfield 41, 3) := by decide +kernel
theorem dX5_letter_19 : decode cX5_letter 19 = .ok (.bipush 20, 2) := by decide +kernel
theorem dX5_letter_21 : decode cX5_letter 21 = .ok (.if_icmp .ne 6, 3) := by decide +kernel
theorem dX5_letter_24 : decode cX5_letter 24 = .ok (.bipush (-104), 2) := by decide +kernel
theorem dX5_letter_26 : decode cX5_letter 26 = .ok (.ireturn, 1) := by decide +kernel
theorem dX5_letter_27 : decode cX5_letter 27 = .ok (.aload_n 0, 1) := by decide +kernel
theorem dX5_letter_28 : decode cX5_letter 28 = .ok (.getfield 7, 3) := by decide +kernel
theorem dX5_letter_31 : decode cX5_letter 31 = .ok (.aload_n 0, 1) := by decide +kernel
theorem dX5_letter_32 : decode cX5_letter 32 = .ok (.getfield 41, 3) := by decide +kernel
theorem dX5_letter_35 : decode cX5_letter 35 = .ok (.iload_n 1, 1) := by decide +kernel
theorem dX5_letter_36 : decode cX5_letter 36 = .ok (.iastore, 1) := by decide +kernel
theorem dX5_letter_37 : decode cX5_letter 37 = .ok (.aload_n 0, 1) := by decide +kernel
theorem dX5_letter_38 : decode cX5_letter 38 = .ok (.dup, 1) := by decide +kernel
theorem dX5_letter_39 : decode cX5_letter 39 = .ok (.getfield 41, 3) := by decide +kernel
theorem dX5_letter_42 : decode cX5_letter 42 = .ok (.iconst 1, 1) := by decide +kernel
theorem dX5_letter_43 : decode cX5_letter 43 = .ok (.iadd, 1) := by decide +kernel
theorem dX5_letter_44 : decode cX5_letter 44 = .ok (.putfield 41, 3) := by decide +kernel
theorem dX5_letter_47 : decode cX5_letter 47 = .ok (.aload_n 0, 1) := by decide +kernel
theorem dX5_letter_48 : decode cX5_letter 48 = .ok (.getfield 41, 3) := by decide +kernel
theorem dX5_letter_51 : decode cX5_letter 51 = .ok (.ireturn, 1) := by decide +kernel
theorem dX5_blank_0 : decode cX5_blank 0 = .ok (.aload_n 0, 1) := by decide +kernel
theorem dX5_blank_1 : decode cX5_blank 1 = .ok (.getfield 41, 3) := by decide +kernel
theorem dX5_blank_4 : decode cX5_blank 4 = .ok (.istore_n 1, 1) := by decide +kernel
theorem dX5_blank_5 : decode cX5_blank 5 = .ok (.aload_n 0, 1) := by decide +kernel
theorem dX5_blank_6 : decode cX5_blank 6 = .ok (.iconst 0, 1) := by decide +kernel
theorem dX5_blank_7 : decode cX5_blank 7 = .ok (.putfield 41, 3) := by decide +kernel
theorem dX5_blank_10 : decode cX5_blank 10 = .ok (.iload_n 1, 1) := by decide +kernel
theorem dX5_blank_11 : decode cX5_blank 11 = .ok (.ireturn, 1) := by decide +kernel
theorem dX5_kindBy_0 : decode cX5_kindBy 0 = .ok (.iload_n 0, 1) := by decide +kernel
theorem dX5_kindBy_1 : decode cX5_kindBy 1 = .ok (.bipush 99, 2) := by decide +kernel
theorem dX5_kindBy_3 : decode cX5_kindBy 3 = .ok (.if_icmp .ne 7, 3) := by decide +kernel
theorem dX5_kindBy_6 : decode cX5_kindBy 6 = .ok (.iconst 0, 1) := by decide +kernel
theorem dX5_kindBy_7 : decode cX5_kindBy 7 = .ok (.goto 44, 3) := by decide +kernel
theorem dX5_kindBy_10 : decode cX5_kindBy 10 = .ok (.iload_n 0, 1) := by decide +kernel
theorem dX5_kindBy_11 : decode cX5_kindBy 11 = .ok (.bipush 112, 2) := by decide +kernel
theorem dX5_kindBy_13 : decode cX5_kindBy 13 = .ok (.if_icmp .ne 7, 3) := by decide +kernel
theorem dX5_kindBy_16 : decode cX5_kindBy 16 = .ok (.iconst 1, 1) := by decide +kernel
theorem dX5_kindBy_17 : decode cX5_kindBy 17 = .ok (.goto 34, 3) := by decide +kernel
theorem dX5_kindBy_20 : decode cX5_kindBy 20 = .ok (.iload_n 0, 1) := by decide +kernel
theorem dX5_kindBy_21 : decode cX5_kindBy 21 = .ok (.bipush 116, 2) := by decide +kernel
theorem dX5_kindBy_23 : decode cX5_kindBy 23 = .ok (.if_icmp .ne 7, 3) := by decide +kernel
theorem dX5_kindBy_26 : decode cX5_kindBy 26 = .ok (.iconst 2, 1) := by decide +kernel
theorem dX5_kindBy_27 : decode cX5_kindBy 27 = .ok (.goto 24, 3) := by decide +kernel
theorem dX5_kindBy_30 : decode cX5_kindBy 30 = .ok (.iload_n 0, 1) := by decide +kernel
theorem dX5_kindBy_31 : decode cX5_kindBy 31 = .ok (.bipush 109, 2) := by decide +kernel
theorem dX5_kindBy_33 : decode cX5_kindBy 33 = .ok (.if_icmp .ne 7, 3) := by decide +kernel
theorem dX5_kindBy_36 : decode cX5_kindBy 36 = .ok (.iconst 3, 1) := by decide +kernel
theorem dX5_kindBy_37 : decode cX5_kindBy 37 = .ok (.goto 14, 3) := by decide +kernel
theorem dX5_kindBy_40 : decode cX5_kindBy 40 = .ok (.iload_n 0, 1) := by decide +kernel
theorem dX5_kindBy_41 : decode cX5_kindBy 41 = .ok (.bipush 101, 2) := by decide +kernel
theorem dX5_kindBy_43 : decode cX5_kindBy 43 = .ok (.if_icmp .ne 7, 3) := by decide +kernel
theorem dX5_kindBy_46 : decode cX5_kindBy 46 = .ok (.iconst 4, 1) := by decide +kernel
theorem dX5_kindBy_47 : decode cX5_kindBy 47 = .ok (.goto 4, 3) := by decide +kernel
theorem dX5_kindBy_50 : decode cX5_kindBy 50 = .ok (.iconst (-1), 1) := by decide +kernel
theorem dX5_kindBy_51 : decode cX5_kindBy 51 = .ok (.ireturn, 1) := by decide +kernel
set_option maxRecDepth 20000 in
theorem ggX5_isGood_X5_kindBy : GoodIn wsX5_isGood wsX5_kindBy := goodIn_r _ [6] (by decide +kernel) (by decide +kernel)
set_option maxRecDepth 20000 in
theorem gX5_isGood_X5_kindBy : GoodIn wsX5_isGood (va_wsS RX5 44 yX5_kindBy wsX5_kindBy) := goodIn_app (goodIn_of _ (by decide +kernel)) ggX5_isGood_X5_kindBy
set_option maxRecDepth 20000 in
theorem ggX5_isGood_X5_in : GoodIn wsX5_isGood wsX5_in := goodIn_r _ [9] (by decide +kernel) (by decide +kernel)
set_option maxRecDepth 20000 in
theorem gX5_isGood_X5_in : GoodIn wsX5_isGood (va_wsS RX5 37 yX5_in wsX5_in) := goodIn_app (goodIn_of _ (by decide +kernel)) ggX5_isGood_X5_in
theorem dX5_isGood_0 : decode cX5_isGood 0 = .ok (.iload_n 0, 1) := by decide +kernel
theorem dX5_isGood_1 : decode cX5_isGood 1 = .ok (.iconst 3, 1) := by decide +kernel
theorem dX5_isGood_2 : decode cX5_isGood 2 = .ok (.irem, 1) := by decide +kernel
theorem dX5_isGood_3 : decode cX5_isGood 3 = .ok (.lookupswitch 57 #[(0, 25), (1, 45)], 25) := by decide +kernel
theorem dX5_isGood_28 : decode cX5_isGood 28 = .ok (.iload_n 0, 1) := by decide +kernel
theorem dX5_isGood_29 : decode cX5_isGood 29 = .ok (.bipush 18, 2) := by decide +kernel
theorem dX5_isGood_31 : decode cX5_isGood 31 = .ok (.if_icmp .ge 15, 3) := by decide +kernel
theorem dX5_isGood_34 : decode cX5_isGood 34 = .ok (.iload_n 1, 1) := by decide +kernel
theorem dX5_isGood_35 : decode cX5_isGood 35 = .ok (.invokestatic 44, 3) := by decide +kernel
theorem dX5_isGood_38 : decode cX5_isGood 38 = .ok (.iconst (-1), 1) := by decide +kernel
theorem dX5_isGood_39 : decode cX5_isGood 39 = .ok (.if_icmp .eq 7, 3) := by decide +kernel
theorem dX5_isGood_42 : decode cX5_isGood 42 = .ok (.iconst 1, 1) := by decide +kernel
theorem dX5_isGood_43 : decode cX5_isGood 43 = .ok (.goto 4, 3) := by decide +kernel
theorem dX5_isGood_46 : decode cX5_isGood 46 = .ok (.iconst 0, 1) := by decide +kernel
theorem dX5_isGood_47 : decode cX5_isGood 47 = .ok (.ireturn, 1) := by decide +kernel
theorem dX5_isGood_48 : decode cX5_isGood 48 = .ok (.iload_n 1, 1) := by decide +kernel
theorem dX5_isGood_49 : decode cX5_isGood 49 = .ok (.i2l, 1) := by decide +kernel
theorem dX5_isGood_50 : decode cX5_isGood 50 = .ok (.ldc2_w 48, 3) := by decide +kernel
theorem dX5_isGood_53 : decode cX5_isGood 53 = .ok (.ldc2_w 50, 3) := by decide +kernel
theorem dX5_isGood_56 : decode cX5_isGood 56 = .ok (.invokestatic 37, 3) := by decide +kernel
theorem dX5_isGood_59 : decode cX5_isGood 59 = .ok (.ireturn, 1) := by decide +kernel
theorem dX5_isGood_60 : decode cX5_isGood 60 = .ok (.iload_n 1, 1) := by decide +kernel
theorem dX5_isGood_61 : decode cX5_isGood 61 = .ok (.bipush 44, 2) := by decide +kernel
theorem dX5_isGood_63 : decode cX5_isGood 63 = .ok (.if_icmp .ne 13, 3) := by decide +kernel
theorem dX5_isGood_66 : decode cX5_isGood 66 = .ok (.iload_n 0, 1) := by decide +kernel
theorem dX5_isGood_67 : decode cX5_isGood 67 = .ok (.bipush 17, 2) := by decide +kernel
theorem dX5_isGood_69 : decode cX5_isGood 69 = .ok (.if_icmp .ge 7, 3) := by decide +kernel
theorem dX5_isGood_72 : decode cX5_isGood 72 = .ok (.iconst 1, 1) := by decide +kernel
theorem dX5_isGood_73 : decode cX5_isGood 73 = .ok (.goto 4, 3) := by decide +kernel
theorem dX5_isGood_76 : decode cX5_isGood 76 = .ok (.iconst 0, 1) := by decide +kernel
theorem dX5_isGood_77 : decode cX5_isGood 77 = .ok (.ireturn, 1) := by decide +kernel
set_option maxRecDepth 20000 in
theorem ggX5_faultOf_X5_isGood : GoodIn wsX5_faultOf wsX5_isGood := goodIn_r _ [6, 7, 8, 9, 10, 5, 11, 12, 13, 14] (by decide +kernel) (by decide +kernel)
set_option maxRecDepth 20000 in
theorem gX5_faultOf_X5_isGood : GoodIn wsX5_faultOf (va_wsS RX5 52 yX5_isGood wsX5_isGood) := goodIn_app (goodIn_of _ (by decide +kernel)) ggX5_faultOf_X5_isGood
theorem dX5_faultOf_0 : decode cX5_faultOf 0 = .ok (.iconst 0, 1) := by decide +kernel
theorem dX5_faultOf_1 : decode cX5_faultOf 1 = .ok (.istore_n 1, 1) := by decide +kernel
theorem dX5_faultOf_2 : decode cX5_faultOf 2 = .ok (.iload_n 1, 1) := by decide +kernel
theorem dX5_faultOf_3 : decode cX5_faultOf 3 = .ok (.aload_n 0, 1) := by decide +kernel
theorem dX5_faultOf_4 : decode cX5_faultOf 4 = .ok (.getfield 41, 3) := by decide +kernel
theorem dX5_faultOf_7 : decode cX5_faultOf 7 = .ok (.if_icmp .ge 22, 3) := by decide +kernel
theorem dX5_faultOf_10 : decode cX5_faultOf 10 = .ok (.iload_n 1, 1) := by decide +kernel
theorem dX5_faultOf_11 : decode cX5_faultOf 11 = .ok (.aload_n 0, 1) := by decide +kernel
theorem dX5_faultOf_12 : decode cX5_faultOf 12 = .ok (.getfield 7, 3) := by decide +kernel
theorem dX5_faultOf_15 : decode cX5_faultOf 15 = .ok (.iload_n 1, 1) := by decide +kernel
theorem dX5_faultOf_16 : decode cX5_faultOf 16 = .ok (.iaload, 1) := by decide +kernel
theorem dX5_faultOf_17 : decode cX5_faultOf 17 = .ok (.invokestatic 52, 3) := by decide +kernel
theorem dX5_faultOf_20 : decode cX5_faultOf 20 = .ok (.ifCond .eq 9, 3) := by decide +kernel
theorem dX5_faultOf_23 : decode cX5_faultOf 23 = .ok (.iinc 1 1, 3) := by decide +kernel
theorem dX5_faultOf_26 : decode cX5_faultOf 26 = .ok (.goto (-24), 3) := by decide +kernel
theorem dX5_faultOf_29 : decode cX5_faultOf 29 = .ok (.iload_n 1, 1) := by decide +kernel
theorem dX5_faultOf_30 : decode cX5_faultOf 30 = .ok (.ireturn, 1) := by decide +kernel
set_option maxRecDepth 20000 in
theorem ggX5_fault_X5_faultOf : GoodIn wsX5_fault wsX5_faultOf := goodIn_r _ [5, 6, 7, 8, 9, 4, 10, 11, 12, 13, 14, 15, 16, 17, 18, 19, 20, 21, 22, 23, 24, 25, 26, 27, 28, 29, 30, 31, 32, 33, 34, 35, 36, 37, 38] (by decide +kernel) (by decide +kernel)
set_option maxRecDepth 20000 in
theorem gX5_fault_X5_faultOf : GoodIn wsX5_fault (wsV RX5 56 RX5 yX5_faultOf wsX5_faultOf) := goodIn_app (goodIn_of _ (by decide +kernel)) ggX5_fault_X5_faultOf
theorem dX5_fault_0 : decode cX5_fault 0 = .ok (.aload_n 0, 1) := by decide +kernel
theorem dX5_fault_1 : decode cX5_fault 1 = .ok (.invokevirtual 56, 3) := by decide +kernel
theorem dX5_fault_4 : decode cX5_fault 4 = .ok (.ireturn, 1) := by decide +kernel
set_option maxRecDepth 20000 in
theorem ggX5_school_X5_faultOf : GoodIn wsX5_school wsX5_faultOf := goodIn_r _ [13, 1, 4, 14, 15, 12, 16, 17, 18, 19, 20, 21, 22, 23, 24, 25, 26, 27, 28, 29, 30, 31, 32, 33, 34, 35, 36, 37, 38, 39, 40, 41, 42, 43, 44] (by decide +kernel) (by decide +kernel)
set_option maxRecDepth 20000 in
theorem gX5_school_X5_faultOf : GoodIn wsX5_school (wsV RX5 56 RX5 yX5_faultOf wsX5_faultOf) := goodIn_app (goodIn_of _ (by decide +kernel)) ggX5_school_X5_faultOf
set_option maxRecDepth 20000 in
theorem ggX5_school_X5_kindBy : GoodIn wsX5_school wsX5_kindBy := goodIn_r _ [21] (by decide +kernel) (by decide +kernel)
set_option maxRecDepth 20000 in
theorem gX5_school_X5_kindBy : GoodIn wsX5_school (va_wsS RX5 44 yX5_kindBy wsX5_kindBy) := goodIn_app (goodIn_of _ (by decide +kernel)) ggX5_school_X5_kindBy
theorem dX5_school_0 : decode cX5_school 0 = .ok (.aload_n 0, 1) := by decide +kernel
theorem dX5_school_1 : decode cX5_school 1 = .ok (.getfield 41, 3) := by decide +kernel
theorem dX5_school_4 : decode cX5_school 4 = .ok (.iconst 5, 1) := by decide +kernel
theorem dX5_school_5 : decode cX5_school 5 = .ok (.if_icmp .lt 24, 3) := by decide +kernel
theorem dX5_school_8 : decode cX5_school 8 = .ok (.aload_n 0, 1) := by decide +kernel
theorem dX5_school_9 : decode cX5_school 9 = .ok (.getfield 41, 3) := by decide +kernel
theorem dX5_school_12 : decode cX5_school 12 = .ok (.iconst 3, 1) := by decide +kernel
theorem dX5_school_13 : decode cX5_school 13 = .ok (.irem, 1) := by decide +kernel
theorem dX5_school_14 : decode cX5_school 14 = .ok (.iconst 2, 1) := by decide +kernel
theorem dX5_school_15 : decode cX5_school 15 = .ok (.if_icmp .ne 14, 3) := by decide +kernel
theorem dX5_school_18 : decode cX5_school 18 = .ok (.aload_n 0, 1) := by decide +kernel
theorem dX5_school_19 : decode cX5_school 19 = .ok (.invokevirtual 56, 3) := by decide +kernel
theorem dX5_school_22 : decode cX5_school 22 = .ok (.aload_n 0, 1) := by decide +kernel
theorem dX5_school_23 : decode cX5_school 23 = .ok (.getfield 41, 3) := by decide +kernel
theorem dX5_school_26 : decode cX5_school 26 = .ok (.if_icmp .ge 6, 3) := by decide +kernel
theorem dX5_school_29 : decode cX5_school 29 = .ok (.bipush (-103), 2) := by decide +kernel
theorem dX5_school_31 : decode cX5_school 31 = .ok (.ireturn, 1) := by decide +kernel
theorem dX5_school_32 : decode cX5_school 32 = .ok (.aload_n 0, 1) := by decide +kernel
theorem dX5_school_33 : decode cX5_school 33 = .ok (.aload_n 0, 1) := by decide +kernel
theorem dX5_school_34 : decode cX5_school 34 = .ok (.getfield 41, 3) := by decide +kernel
theorem dX5_school_37 : decode cX5_school 37 = .ok (.iconst 1, 1) := by decide +kernel
theorem dX5_school_38 : decode cX5_school 38 = .ok (.iadd, 1) := by decide +kernel
theorem dX5_school_39 : decode cX5_school 39 = .ok (.iconst 3, 1) := by decide +kernel
theorem dX5_school_40 : decode cX5_school 40 = .ok (.idiv, 1) := by decide +kernel
theorem dX5_school_41 : decode cX5_school 41 = .ok (.putfield 60, 3) := by decide +kernel
theorem dX5_school_44 : decode cX5_school 44 = .ok (.iconst 0, 1) := by decide +kernel
theorem dX5_school_45 : decode cX5_school 45 = .ok (.istore_n 1, 1) := by decide +kernel
theorem dX5_school_46 : decode cX5_school 46 = .ok (.iload_n 1, 1) := by decide +kernel
theorem dX5_school_47 : decode cX5_school 47 = .ok (.aload_n 0, 1) := by decide +kernel
theorem dX5_school_48 : decode cX5_school 48 = .ok (.getfield 60, 3) := by decide +kernel
theorem dX5_school_51 : decode cX5_school 51 = .ok (.if_icmp .ge 73, 3) := by decide +kernel
theorem dX5_school_54 : decode cX5_school 54 = .ok (.aload_n 0, 1) := by decide +kernel
theorem dX5_school_55 : decode cX5_school 55 = .ok (.getfield 13, 3) := by decide +kernel
theorem dX5_school_58 : decode cX5_school 58 = .ok (.iconst 4, 1) := by decide +kernel
theorem dX5_school_59 : decode cX5_school 59 = .ok (.iload_n 1, 1) := by decide +kernel
theorem dX5_school_60 : decode cX5_school 60 = .ok (.imul, 1) := by decide +kernel
theorem dX5_school_61 : decode cX5_school 61 = .ok (.aload_n 0, 1) := by decide +kernel
theorem dX5_school_62 : decode cX5_school 62 = .ok (.getfield 7, 3) := by decide +kernel
theorem dX5_school_65 : decode cX5_school 65 = .ok (.iconst 3, 1) := by decide +kernel
theorem dX5_school_66 : decode cX5_school 66 = .ok (.iload_n 1, 1) := by decide +kernel
theorem dX5_school_67 : decode cX5_school 67 = .ok (.imul, 1) := by decide +kernel
theorem dX5_school_68 : decode cX5_school 68 = .ok (.iaload, 1) := by decide +kernel
theorem dX5_school_69 : decode cX5_school 69 = .ok (.invokestatic 44, 3) := by decide +kernel
theorem dX5_school_72 : decode cX5_school 72 = .ok (.iastore, 1) := by decide +kernel
theorem dX5_school_73 : decode cX5_school 73 = .ok (.aload_n 0, 1) := by decide +kernel
theorem dX5_school_74 : decode cX5_school 74 = .ok (.getfield 13, 3) := by decide +kernel
theorem dX5_school_77 : decode cX5_school 77 = .ok (.iconst 4, 1) := by decide +kernel
theorem dX5_school_78 : decode cX5_school 78 = .ok (.iload_n 1, 1) := by decide +kernel
theorem dX5_school_79 : decode cX5_school 79 = .ok (.imul, 1) := by decide +kernel
theorem dX5_school_80 : decode cX5_school 80 = .ok (.iconst 1, 1) := by decide +kernel
theorem dX5_school_81 : decode cX5_school 81 = .ok (.iadd, 1) := by decide +kernel
theorem dX5_school_82 : decode cX5_school 82 = .ok (.aload_n 0, 1) := by decide +kernel
theorem dX5_school_83 : decode cX5_school 83 = .ok (.getfield 7, 3) := by decide +kernel
theorem dX5_school_86 : decode cX5_school 86 = .ok (.iconst 3, 1) := by decide +kernel
theorem dX5_school_87 : decode cX5_school 87 = .ok (.iload_n 1, 1) := by decide +kernel
theorem dX5_school_88 : decode cX5_school 88 = .ok (.imul, 1) := by decide +kernel
theorem dX5_school_89 : decode cX5_school 89 = .ok (.iconst 1, 1) := by decide +kernel
theorem dX5_school_90 : decode cX5_school 90 = .ok (.iadd, 1) := by decide +kernel
theorem dX5_school_91 : decode cX5_school 91 = .ok (.iaload, 1) := by decide +kernel
theorem dX5_school_92 : decode cX5_school 92 = .ok (.bipush 48, 2) := by decide +kernel
theorem dX5_school_94 : decode cX5_school 94 = .ok (.isub, 1) := by decide +kernel
theorem dX5_school_95 : decode cX5_school 95 = .ok (.iastore, 1) := by decide +kernel
theorem dX5_school_96 : decode cX5_school 96 = .ok (.aload_n 0, 1) := by decide +kernel
theorem dX5_school_97 : decode cX5_school 97 = .ok (.getfield 13, 3) := by decide +kernel
theorem dX5_school_100 : decode cX5_school 100 = .ok (.iconst 4, 1) := by decide +kernel
theorem dX5_school_101 : decode cX5_school 101 = .ok (.iload_n 1, 1) := by decide +kernel
theorem dX5_school_102 : decode cX5_school 102 = .ok (.imul, 1) := by decide +kernel
theorem dX5_school_103 : decode cX5_school 103 = .ok (.iconst 2, 1) := by decide +kernel
theorem dX5_school_104 : decode cX5_school 104 = .ok (.iadd, 1) := by decide +kernel
theorem dX5_school_105 : decode cX5_school 105 = .ok (.iconst (-1), 1) := by decide +kernel
theorem dX5_school_106 : decode cX5_school 106 = .ok (.iastore, 1) := by decide +kernel
theorem dX5_school_107 : decode cX5_school 107 = .ok (.aload_n 0, 1) := by decide +kernel
theorem dX5_school_108 : decode cX5_school 108 = .ok (.getfield 13, 3) := by decide +kernel
theorem dX5_school_111 : decode cX5_school 111 = .ok (.iconst 4, 1) := by decide +kernel
theorem dX5_school_112 : decode cX5_school 112 = .ok (.iload_n 1, 1) := by decide +kernel
theorem dX5_school_113 : decode cX5_school 113 = .ok (.imul, 1) := by decide +kernel
theorem dX5_school_114 : decode cX5_school 114 = .ok (.iconst 3, 1) := by decide +kernel
theorem dX5_school_115 : decode cX5_school 115 = .ok (.iadd, 1) := by decide +kernel
theorem dX5_school_116 : decode cX5_school 116 = .ok (.iconst 0, 1) := by decide +kernel
theorem dX5_school_117 : decode cX5_school 117 = .ok (.iastore, 1) := by decide +kernel
theorem dX5_school_118 : decode cX5_school 118 = .ok (.iinc 1 1, 3) := by decide +kernel
theorem dX5_school_121 : decode cX5_school 121 = .ok (.goto (-75), 3) := by decide +kernel
theorem dX5_school_124 : decode cX5_school 124 = .ok (.aload_n 0, 1) := by decide +kernel
theorem dX5_school_125 : decode cX5_school 125 = .ok (.iconst 0, 1) := by decide +kernel
theorem dX5_school_126 : decode cX5_school 126 = .ok (.putfield 63, 3) := by decide +kernel
theorem dX5_school_129 : decode cX5_school 129 = .ok (.aload_n 0, 1) := by decide +kernel
theorem dX5_school_130 : decode cX5_school 130 = .ok (.iconst 0, 1) := by decide +kernel
theorem dX5_school_131 : decode cX5_school 131 = .ok (.putfield 66, 3) := by decide +kernel
theorem dX5_school_134 : decode cX5_school 134 = .ok (.aload_n 0, 1) := by decide +kernel
theorem dX5_school_135 : decode cX5_school 135 = .ok (.iconst 0, 1) := by decide +kernel
theorem dX5_school_136 : decode cX5_school 136 = .ok (.putfield 69, 3) := by decide +kernel
theorem dX5_school_139 : decode cX5_school 139 = .ok (.aload_n 0, 1) := by decide +kernel
theorem dX5_school_140 : decode cX5_school 140 = .ok (.dup, 1) := by decide +kernel
theorem dX5_school_141 : decode cX5_school 141 = .ok (.getfield 72, 3) := by decide +kernel
theorem dX5_school_144 : decode cX5_school 144 = .ok (.iconst 1, 1) := by decide +kernel
theorem dX5_school_145 : decode cX5_school 145 = .ok (.iadd, 1) := by decide +kernel
theorem dX5_school_146 : decode cX5_school 146 = .ok (.putfield 72, 3) := by decide +kernel
theorem dX5_school_149 : decode cX5_school 149 = .ok (.aload_n 0, 1) := by decide +kernel
theorem dX5_school_150 : decode cX5_school 150 = .ok (.iconst 0, 1) := by decide +kernel
theorem dX5_school_151 : decode cX5_school 151 = .ok (.putfield 41, 3) := by decide +kernel
theorem dX5_school_154 : decode cX5_school 154 = .ok (.aload_n 0, 1) := by decide +kernel
theorem dX5_school_155 : decode cX5_school 155 = .ok (.getfield 60, 3) := by decide +kernel
theorem dX5_school_158 : decode cX5_school 158 = .ok (.ireturn, 1) := by decide +kernel
theorem dX5_lacks_0 : decode cX5_lacks 0 = .ok (.aload_n 0, 1) := by decide +kernel
theorem dX5_lacks_1 : decode cX5_lacks 1 = .ok (.getfield 60, 3) := by decide +kernel
theorem dX5_lacks_4 : decode cX5_lacks 4 = .ok (.ifCond .ne 7, 3) := by decide +kernel
theorem dX5_lacks_7 : decode cX5_lacks 7 = .ok (.iconst 1, 1) := by decide +kernel
theorem dX5_lacks_8 : decode cX5_lacks 8 = .ok (.goto 4, 3) := by decide +kernel
theorem dX5_lacks_11 : decode cX5_lacks 11 = .ok (.iconst 0, 1) := by decide +kernel
theorem dX5_lacks_12 : decode cX5_lacks 12 = .ok (.ireturn, 1) := by decide +kernel
set_option maxRecDepth 20000 in
theorem ggX5_isChild_X5_in : GoodIn wsX5_isChild wsX5_in := goodIn_r _ [5] (by decide +kernel) (by decide +kernel)
set_option maxRecDepth 20000 in
theorem gX5_isChild_X5_in : GoodIn wsX5_isChild (va_wsS RX5 37 yX5_in wsX5_in) := goodIn_app (goodIn_of _ (by decide +kernel)) ggX5_isChild_X5_in
theorem dX5_isChild_0 : decode cX5_isChild 0 = .ok (.iload_n 1, 1) := by decide +kernel
theorem dX5_isChild_1 : decode cX5_isChild 1 = .ok (.i2l, 1) := by decide +kernel
theorem dX5_isChild_2 : decode cX5_isChild 2 = .ok (.lconst 0, 1) := by decide +kernel
theorem dX5_isChild_3 : decode cX5_isChild 3 = .ok (.aload_n 0, 1) := by decide +kernel
theorem dX5_isChild_4 : decode cX5_isChild 4 = .ok (.getfield 60, 3) := by decide +kernel
theorem dX5_isChild_7 : decode cX5_isChild 7 = .ok (.iconst 1, 1) := by decide +kernel
theorem dX5_isChild_8 : decode cX5_isChild 8 = .ok (.isub, 1) := by decide +kernel
theorem dX5_isChild_9 : decode cX5_isChild 9 = .ok (.i2l, 1) := by decide +kernel
theorem dX5_isChild_10 : decode cX5_isChild 10 = .ok (.invokestatic 37, 3) := by decide +kernel
theorem dX5_isChild_13 : decode cX5_isChild 13 = .ok (.ireturn, 1) := by decide +kernel
set_option maxRecDepth 20000 in
theorem ggX5_isRule_X5_in : GoodIn wsX5_isRule wsX5_in := goodIn_r _ [5] (by decide +kernel) (by decide +kernel)
set_option maxRecDepth 20000 in
theorem gX5_isRule_X5_in : GoodIn wsX5_isRule (va_wsS RX5 37 yX5_in wsX5_in) := goodIn_app (goodIn_of _ (by decide +kernel)) ggX5_isRule_X5_in
theorem dX5_isRule_0 : decode cX5_isRule 0 = .ok (.iload_n 0, 1) := by decide +kernel
theorem dX5_isRule_1 : decode cX5_isRule 1 = .ok (.i2l, 1) := by decide +kernel
theorem dX5_isRule_2 : decode cX5_isRule 2 = .ok (.lconst 0, 1) := by decide +kernel
theorem dX5_isRule_3 : decode cX5_isRule 3 = .ok (.ldc2_w 75, 3) := by decide +kernel
theorem dX5_isRule_6 : decode cX5_isRule 6 = .ok (.invokestatic 37, 3) := by decide +kernel
theorem dX5_isRule_9 : decode cX5_isRule 9 = .ok (.ireturn, 1) := by decide +kernel
theorem dX5_teachesBy_0 : decode cX5_teachesBy 0 = .ok (.iload_n 2, 1) := by decide +kernel
theorem dX5_teachesBy_1 : decode cX5_teachesBy 1 = .ok (.iload_n 1, 1) := by decide +kernel
theorem dX5_teachesBy_2 : decode cX5_teachesBy 2 = .ok (.iadd, 1) := by decide +kernel
theorem dX5_teachesBy_3 : decode cX5_teachesBy 3 = .ok (.istore_n 3, 1) := by decide +kernel
theorem dX5_teachesBy_4 : decode cX5_teachesBy 4 = .ok (.iload_n 0, 1) := by decide +kernel
theorem dX5_teachesBy_5 : decode cX5_teachesBy 5 = .ok (.iconst 1, 1) := by decide +kernel
theorem dX5_teachesBy_6 : decode cX5_teachesBy 6 = .ok (.if_icmp .ne 5, 3) := by decide +kernel
theorem dX5_teachesBy_9 : decode cX5_teachesBy 9 = .ok (.iload_n 2, 1) := by decide +kernel
theorem dX5_teachesBy_10 : decode cX5_teachesBy 10 = .ok (.istore_n 3, 1) := by decide +kernel
theorem dX5_teachesBy_11 : decode cX5_teachesBy 11 = .ok (.iload_n 0, 1) := by decide +kernel
theorem dX5_teachesBy_12 : decode cX5_teachesBy 12 = .ok (.iconst 2, 1) := by decide +kernel
theorem dX5_teachesBy_13 : decode cX5_teachesBy 13 = .ok (.if_icmp .ne 10, 3) := by decide +kernel
theorem dX5_teachesBy_16 : decode cX5_teachesBy 16 = .ok (.iload_n 1, 1) := by decide +kernel
theorem dX5_teachesBy_17 : decode cX5_teachesBy 17 = .ok (.iload_n 2, 1) := by decide +kernel
theorem dX5_teachesBy_18 : decode cX5_teachesBy 18 = .ok (.isub, 1) := by decide +kernel
theorem dX5_teachesBy_19 : decode cX5_teachesBy 19 = .ok (.bipush 12, 2) := by decide +kernel
theorem dX5_teachesBy_21 : decode cX5_teachesBy 21 = .ok (.iadd, 1) := by decide +kernel
theorem dX5_teachesBy_22 : decode cX5_teachesBy 22 = .ok (.istore_n 3, 1) := by decide +kernel
theorem dX5_teachesBy_23 : decode cX5_teachesBy 23 = .ok (.iload_n 0, 1) := by decide +kernel
theorem dX5_teachesBy_24 : decode cX5_teachesBy 24 = .ok (.iconst 3, 1) := by decide +kernel
theorem dX5_teachesBy_25 : decode cX5_teachesBy 25 = .ok (.if_icmp .ne 11, 3) := by decide +kernel
theorem dX5_teachesBy_28 : decode cX5_teachesBy 28 = .ok (.iload_n 2, 1) := by decide +kernel
theorem dX5_teachesBy_29 : decode cX5_teachesBy 29 = .ok (.iload_n 2, 1) := by decide +kernel
theorem dX5_teachesBy_30 : decode cX5_teachesBy 30 = .ok (.iconst 2, 1) := by decide +kernel
theorem dX5_teachesBy_31 : decode cX5_teachesBy 31 = .ok (.irem, 1) := by decide +kernel
theorem dX5_teachesBy_32 : decode cX5_teachesBy 32 = .ok (.isub, 1) := by decide +kernel
theorem dX5_teachesBy_33 : decode cX5_teachesBy 33 = .ok (.iload_n 1, 1) := by decide +kernel
theorem dX5_teachesBy_34 : decode cX5_teachesBy 34 = .ok (.iadd, 1) := by decide +kernel
theorem dX5_teachesBy_35 : decode cX5_teachesBy 35 = .ok (.istore_n 3, 1) := by decide +kernel
theorem dX5_teachesBy_36 : decode cX5_teachesBy 36 = .ok (.iload_n 0, 1) := by decide +kernel
theorem dX5_teachesBy_37 : decode cX5_teachesBy 37 = .ok (.iconst 4, 1) := by decide +kernel
theorem dX5_teachesBy_38 : decode cX5_teachesBy 38 = .ok (.if_icmp .ne 7, 3) := by decide +kernel
theorem dX5_teachesBy_41 : decode cX5_teachesBy 41 = .ok (.iconst 2, 1) := by decide +kernel
theorem dX5_teachesBy_42 : decode cX5_teachesBy 42 = .ok (.iload_n 2, 1) := by decide +kernel
theorem dX5_teachesBy_43 : decode cX5_teachesBy 43 = .ok (.imul, 1) := by decide +kernel
theorem dX5_teachesBy_44 : decode cX5_teachesBy 44 = .ok (.istore_n 3, 1) := by decide +kernel
theorem dX5_teachesBy_45 : decode cX5_teachesBy 45 = .ok (.iload_n 3, 1) := by decide +kernel
theorem dX5_teachesBy_46 : decode cX5_teachesBy 46 = .ok (.bipush 12, 2) := by decide +kernel
theorem dX5_teachesBy_48 : decode cX5_teachesBy 48 = .ok (.irem, 1) := by decide +kernel
theorem dX5_teachesBy_49 : decode cX5_teachesBy 49 = .ok (.ireturn, 1) := by decide +kernel
set_option maxRecDepth 20000 in
theorem ggX5_teachesOf_X5_teachesBy : GoodIn wsX5_teachesOf wsX5_teachesBy := goodIn_r _ [5] (by decide +kernel) (by decide +kernel)
set_option maxRecDepth 20000 in
theorem gX5_teachesOf_X5_teachesBy : GoodIn wsX5_teachesOf (va_wsS RX5 77 yX5_teachesBy wsX5_teachesBy) := goodIn_app (goodIn_of _ (by decide +kernel)) ggX5_teachesOf_X5_teachesBy
theorem dX5_teachesOf_0 : decode cX5_teachesOf 0 = .ok (.aload_n 0, 1) := by decide +kernel
theorem dX5_teachesOf_1 : decode cX5_teachesOf 1 = .ok (.getfield 13, 3) := by decide +kernel
theorem dX5_teachesOf_4 : decode cX5_teachesOf 4 = .ok (.iconst 4, 1) := by decide +kernel
theorem dX5_teachesOf_5 : decode cX5_teachesOf 5 = .ok (.iload_n 1, 1) := by decide +kernel
theorem dX5_teachesOf_6 : decode cX5_teachesOf 6 = .ok (.imul, 1) := by decide +kernel
theorem dX5_teachesOf_7 : decode cX5_teachesOf 7 = .ok (.iaload, 1) := by decide +kernel
theorem dX5_teachesOf_8 : decode cX5_teachesOf 8 = .ok (.aload_n 0, 1) := by decide +kernel
theorem dX5_teachesOf_9 : decode cX5_teachesOf 9 = .ok (.getfield 13, 3) := by decide +kernel
theorem dX5_teachesOf_12 : decode cX5_teachesOf 12 = .ok (.iconst 4, 1) := by decide +kernel
theorem dX5_teachesOf_13 : decode cX5_teachesOf 13 = .ok (.iload_n 1, 1) := by decide +kernel
theorem dX5_teachesOf_14 : decode cX5_teachesOf 14 = .ok (.imul, 1) := by decide +kernel
theorem dX5_teachesOf_15 : decode cX5_teachesOf 15 = .ok (.iconst 1, 1) := by decide +kernel
theorem dX5_teachesOf_16 : decode cX5_teachesOf 16 = .ok (.iadd, 1) := by decide +kernel
theorem dX5_teachesOf_17 : decode cX5_teachesOf 17 = .ok (.iaload, 1) := by decide +kernel
theorem dX5_teachesOf_18 : decode cX5_teachesOf 18 = .ok (.iload_n 2, 1) := by decide +kernel
theorem dX5_teachesOf_19 : decode cX5_teachesOf 19 = .ok (.invokestatic 77, 3) := by decide +kernel
theorem dX5_teachesOf_22 : decode cX5_teachesOf 22 = .ok (.ireturn, 1) := by decide +kernel
theorem dX5_isIll_0 : decode cX5_isIll 0 = .ok (.aload_n 0, 1) := by decide +kernel
theorem dX5_isIll_1 : decode cX5_isIll 1 = .ok (.getfield 13, 3) := by decide +kernel
theorem dX5_isIll_4 : decode cX5_isIll 4 = .ok (.iconst 4, 1) := by decide +kernel
theorem dX5_isIll_5 : decode cX5_isIll 5 = .ok (.iload_n 1, 1) := by decide +kernel
theorem dX5_isIll_6 : decode cX5_isIll 6 = .ok (.imul, 1) := by decide +kernel
theorem dX5_isIll_7 : decode cX5_isIll 7 = .ok (.iconst 3, 1) := by decide +kernel
theorem dX5_isIll_8 : decode cX5_isIll 8 = .ok (.iadd, 1) := by decide +kernel
theorem dX5_isIll_9 : decode cX5_isIll 9 = .ok (.iaload, 1) := by decide +kernel
theorem dX5_isIll_10 : decode cX5_isIll 10 = .ok (.iconst 1, 1) := by decide +kernel
theorem dX5_isIll_11 : decode cX5_isIll 11 = .ok (.if_icmp .ne 7, 3) := by decide +kernel
theorem dX5_isIll_14 : decode cX5_isIll 14 = .ok (.iconst 1, 1) := by decide +kernel
theorem dX5_isIll_15 : decode cX5_isIll 15 = .ok (.goto 4, 3) := by decide +kernel
theorem dX5_isIll_18 : decode cX5_isIll 18 = .ok (.iconst 0, 1) := by decide +kernel
theorem dX5_isIll_19 : decode cX5_isIll 19 = .ok (.ireturn, 1) := by decide +kernel
set_option maxRecDepth 20000 in
theorem ggX5_wouldTeach_X5_isIll : GoodIn wsX5_wouldTeach wsX5_isIll := goodIn_r _ [6, 1, 14, 15, 16, 17, 18, 19, 20, 21, 22, 23, 24, 25, 26, 27, 28, 29, 30, 31, 32, 33] (by decide +kernel) (by decide +kernel)
set_option maxRecDepth 20000 in
theorem gX5_wouldTeach_X5_isIll : GoodIn wsX5_wouldTeach (wsV RX5 81 RX5 yX5_isIll wsX5_isIll) := goodIn_app (goodIn_of _ (by decide +kernel)) ggX5_wouldTeach_X5_isIll
set_option maxRecDepth 20000 in
theorem ggX5_wouldTeach_X5_teachesOf : GoodIn wsX5_wouldTeach wsX5_teachesOf := goodIn_r _ [10, 1, 11, 12, 5, 13, 14, 15, 16, 17, 18, 19, 20, 21, 22, 23, 24, 25, 26, 27, 28, 29, 30, 31, 32, 33] (by decide +kernel) (by decide +kernel)
set_option maxRecDepth 20000 in
theorem gX5_wouldTeach_X5_teachesOf : GoodIn wsX5_wouldTeach (wsV RX5 85 RX5 yX5_teachesOf wsX5_teachesOf) := goodIn_app (goodIn_of _ (by decide +kernel)) ggX5_wouldTeach_X5_teachesOf
theorem dX5_wouldTeach_0 : decode cX5_wouldTeach 0 = .ok (.aload_n 0, 1) := by decide +kernel
theorem dX5_wouldTeach_1 : decode cX5_wouldTeach 1 = .ok (.iload_n 1, 1) := by decide +kernel
theorem dX5_wouldTeach_2 : decode cX5_wouldTeach 2 = .ok (.invokevirtual 81, 3) := by decide +kernel
theorem dX5_wouldTeach_5 : decode cX5_wouldTeach 5 = .ok (.ifCond .ne 21, 3) := by decide +kernel
theorem dX5_wouldTeach_8 : decode cX5_wouldTeach 8 = .ok (.aload_n 0, 1) := by decide +kernel
theorem dX5_wouldTeach_9 : decode cX5_wouldTeach 9 = .ok (.getfield 13, 3) := by decide +kernel
theorem dX5_wouldTeach_12 : decode cX5_wouldTeach 12 = .ok (.iconst 4, 1) := by decide +kernel
theorem dX5_wouldTeach_13 : decode cX5_wouldTeach 13 = .ok (.iload_n 1, 1) := by decide +kernel
theorem dX5_wouldTeach_14 : decode cX5_wouldTeach 14 = .ok (.imul, 1) := by decide +kernel
theorem dX5_wouldTeach_15 : decode cX5_wouldTeach 15 = .ok (.iconst 2, 1) := by decide +kernel
theorem dX5_wouldTeach_16 : decode cX5_wouldTeach 16 = .ok (.iadd, 1) := by decide +kernel
theorem dX5_wouldTeach_17 : decode cX5_wouldTeach 17 = .ok (.iaload, 1) := by decide +kernel
theorem dX5_wouldTeach_18 : decode cX5_wouldTeach 18 = .ok (.iconst (-1), 1) := by decide +kernel
theorem dX5_wouldTeach_19 : decode cX5_wouldTeach 19 = .ok (.if_icmp .eq 7, 3) := by decide +kernel
theorem dX5_wouldTeach_22 : decode cX5_wouldTeach 22 = .ok (.iconst 1, 1) := by decide +kernel
theorem dX5_wouldTeach_23 : decode cX5_wouldTeach 23 = .ok (.goto 4, 3) := by decide +kernel
theorem dX5_wouldTeach_26 : decode cX5_wouldTeach 26 = .ok (.iconst 0, 1) := by decide +kernel
theorem dX5_wouldTeach_27 : decode cX5_wouldTeach 27 = .ok (.istore_n 2, 1) := by decide +kernel
theorem dX5_wouldTeach_28 : decode cX5_wouldTeach 28 = .ok (.iload_n 2, 1) := by decide +kernel
theorem dX5_wouldTeach_29 : decode cX5_wouldTeach 29 = .ok (.ifCond .eq 21, 3) := by decide +kernel
theorem dX5_wouldTeach_32 : decode cX5_wouldTeach 32 = .ok (.aload_n 0, 1) := by decide +kernel
theorem dX5_wouldTeach_33 : decode cX5_wouldTeach 33 = .ok (.iload_n 1, 1) := by decide +kernel
theorem dX5_wouldTeach_34 : decode cX5_wouldTeach 34 = .ok (.aload_n 0, 1) := by decide +kernel
theorem dX5_wouldTeach_35 : decode cX5_wouldTeach 35 = .ok (.getfield 13, 3) := by decide +kernel
theorem dX5_wouldTeach_38 : decode cX5_wouldTeach 38 = .ok (.iconst 4, 1) := by decide +kernel
theorem dX5_wouldTeach_39 : decode cX5_wouldTeach 39 = .ok (.iload_n 1, 1) := by decide +kernel
theorem dX5_wouldTeach_40 : decode cX5_wouldTeach 40 = .ok (.imul, 1) := by decide +kernel
theorem dX5_wouldTeach_41 : decode cX5_wouldTeach 41 = .ok (.iconst 2, 1) := by decide +kernel
theorem dX5_wouldTeach_42 : decode cX5_wouldTeach 42 = .ok (.iadd, 1) := by decide +kernel
theorem dX5_wouldTeach_43 : decode cX5_wouldTeach 43 = .ok (.iaload, 1) := by decide +kernel
theorem dX5_wouldTeach_44 : decode cX5_wouldTeach 44 = .ok (.invokevirtual 85, 3) := by decide +kernel
theorem dX5_wouldTeach_47 : decode cX5_wouldTeach 47 = .ok (.goto 4, 3) := by decide +kernel
theorem dX5_wouldTeach_50 : decode cX5_wouldTeach 50 = .ok (.iconst (-1), 1) := by decide +kernel
theorem dX5_wouldTeach_51 : decode cX5_wouldTeach 51 = .ok (.ireturn, 1) := by decide +kernel
set_option maxRecDepth 20000 in
theorem ggX5_tellChild_X5_wouldTeach : GoodIn wsX5_tellChild wsX5_wouldTeach := goodIn_r _ [6, 1, 7, 8, 9, 5, 10, 11, 12, 13, 14, 15, 16, 17, 29, 30, 31, 32, 33, 34, 35, 36, 37, 38, 39, 40, 41, 42, 43, 44, 45, 46, 47, 48] (by decide +kernel) (by decide +kernel)
set_option maxRecDepth 20000 in
theorem gX5_tellChild_X5_wouldTeach : GoodIn wsX5_tellChild (wsV RX5 89 RX5 yX5_wouldTeach wsX5_wouldTeach) := goodIn_app (goodIn_of _ (by decide +kernel)) ggX5_tellChild_X5_wouldTeach
set_option maxRecDepth 20000 in
theorem ggX5_tellChild_X5_slipsOf : GoodIn wsX5_tellChild wsX5_slipsOf := goodIn_r _ [21, 22, 1, 23, 15, 16, 5, 17, 29, 30, 31, 32, 33, 34, 35, 36, 37, 38, 39, 40, 41, 42, 43, 44, 45, 46, 47, 48] (by decide +kernel) (by decide +kernel)
set_option maxRecDepth 20000 in
theorem gX5_tellChild_X5_slipsOf : GoodIn wsX5_tellChild (wsV RX5 92 RX5 yX5_slipsOf wsX5_slipsOf) := goodIn_app (goodIn_of _ (by decide +kernel)) ggX5_tellChild_X5_slipsOf
set_option maxRecDepth 20000 in
theorem ggX5_tellChild_X5_askOf : GoodIn wsX5_tellChild wsX5_askOf := goodIn_r _ [27, 28, 1, 18, 19, 20, 5, 21, 22, 23, 15, 16, 17, 29, 30, 31, 32, 33, 34, 35, 36, 37, 38, 39, 40, 41, 42, 43, 44, 45, 46, 47, 48] (by decide +kernel) (by decide +kernel)
set_option maxRecDepth 20000 in
theorem gX5_tellChild_X5_askOf : GoodIn wsX5_tellChild (wsV RX5 95 RX5 yX5_askOf wsX5_askOf) := goodIn_app (goodIn_of _ (by decide +kernel)) ggX5_tellChild_X5_askOf
theorem dX5_tellChild_0 : decode cX5_tellChild 0 = .ok (.iload_n 2, 1) := by decide +kernel
theorem dX5_tellChild_1 : decode cX5_tellChild 1 = .ok (.tableswitch 72 0 6 #[43, 43, 43, 43, 54, 60, 66], 43) := by decide +kernel
theorem dX5_tellChild_44 : decode cX5_tellChild 44 = .ok (.aload_n 0, 1) := by decide +kernel
theorem dX5_tellChild_45 : decode cX5_tellChild 45 = .ok (.getfield 13, 3) := by decide +kernel
theorem dX5_tellChild_48 : decode cX5_tellChild 48 = .ok (.iconst 4, 1) := by decide +kernel
theorem dX5_tellChild_49 : decode cX5_tellChild 49 = .ok (.iload_n 1, 1) := by decide +kernel
theorem dX5_tellChild_50 : decode cX5_tellChild 50 = .ok (.imul, 1) := by decide +kernel
theorem dX5_tellChild_51 : decode cX5_tellChild 51 = .ok (.iload_n 2, 1) := by decide +kernel
theorem dX5_tellChild_52 : decode cX5_tellChild 52 = .ok (.iadd, 1) := by decide +kernel
theorem dX5_tellChild_53 : decode cX5_tellChild 53 = .ok (.iaload, 1) := by decide +kernel
theorem dX5_tellChild_54 : decode cX5_tellChild 54 = .ok (.ireturn, 1) := by decide +kernel
theorem dX5_tellChild_55 : decode cX5_tellChild 55 = .ok (.aload_n 0, 1) := by decide +kernel
theorem dX5_tellChild_56 : decode cX5_tellChild 56 = .ok (.iload_n 1, 1) := by decide +kernel
theorem dX5_tellChild_57 : decode cX5_tellChild 57 = .ok (.invokevirtual 89, 3) := by decide +kernel
theorem dX5_tellChild_60 : decode cX5_tellChild 60 = .ok (.ireturn, 1) := by decide +kernel
theorem dX5_tellChild_61 : decode cX5_tellChild 61 = .ok (.aload_n 0, 1) := by decide +kernel
theorem dX5_tellChild_62 : decode cX5_tellChild 62 = .ok (.iload_n 1, 1) := by decide +kernel
theorem dX5_tellChild_63 : decode cX5_tellChild 63 = .ok (.invokevirtual 92, 3) := by decide +kernel
theorem dX5_tellChild_66 : decode cX5_tellChild 66 = .ok (.ireturn, 1) := by decide +kernel
theorem dX5_tellChild_67 : decode cX5_tellChild 67 = .ok (.aload_n 0, 1) := by decide +kernel
theorem dX5_tellChild_68 : decode cX5_tellChild 68 = .ok (.iload_n 1, 1) := by decide +kernel
theorem dX5_tellChild_69 : decode cX5_tellChild 69 = .ok (.invokevirtual 95, 3) := by decide +kernel
theorem dX5_tellChild_72 : decode cX5_tellChild 72 = .ok (.ireturn, 1) := by decide +kernel
theorem dX5_tellChild_73 : decode cX5_tellChild 73 = .ok (.bipush (-102), 2) := by decide +kernel
theorem dX5_tellChild_75 : decode cX5_tellChild 75 = .ok (.ireturn, 1) := by decide +kernel
set_option maxRecDepth 20000 in
theorem ggX5_child_X5_isChild : GoodIn wsX5_child wsX5_isChild := goodIn_r _ [5, 6, 7, 8, 4, 9, 41, 42, 43, 44, 45, 46, 47, 48, 49, 50, 51, 52, 53, 54, 55, 56, 57, 58, 59, 60] (by decide +kernel) (by decide +kernel)
set_option maxRecDepth 20000 in
theorem gX5_child_X5_isChild : GoodIn wsX5_child (wsV RX5 98 RX5 yX5_isChild wsX5_isChild) := goodIn_app (goodIn_of _ (by decide +kernel)) ggX5_child_X5_isChild
set_option maxRecDepth 20000 in
theorem ggX5_child_X5_tellChild : GoodIn wsX5_child wsX5_tellChild := goodIn_r _ [13, 14, 15, 16, 17, 4, 18, 19, 20, 21, 22, 23, 24, 25, 26, 27, 28, 29, 30, 31, 32, 33, 34, 35, 36, 37, 38, 39, 40, 41, 42, 43, 44, 45, 46, 47, 48, 49, 50, 51, 52, 53, 54, 55, 56, 57, 58, 59, 60] (by decide +kernel) (by decide +kernel)
set_option maxRecDepth 20000 in
theorem gX5_child_X5_tellChild : GoodIn wsX5_child (wsV RX5 101 RX5 yX5_tellChild wsX5_tellChild) := goodIn_app (goodIn_of _ (by decide +kernel)) ggX5_child_X5_tellChild
theorem dX5_child_0 : decode cX5_child 0 = .ok (.aload_n 0, 1) := by decide +kernel
theorem dX5_child_1 : decode cX5_child 1 = .ok (.iload_n 1, 1) := by decide +kernel
theorem dX5_child_2 : decode cX5_child 2 = .ok (.invokevirtual 98, 3) := by decide +kernel
theorem dX5_child_5 : decode cX5_child 5 = .ok (.ifCond .eq 12, 3) := by decide +kernel
theorem dX5_child_8 : decode cX5_child 8 = .ok (.aload_n 0, 1) := by decide +kernel
theorem dX5_child_9 : decode cX5_child 9 = .ok (.iload_n 1, 1) := by decide +kernel
theorem dX5_child_10 : decode cX5_child 10 = .ok (.iload_n 2, 1) := by decide +kernel
theorem dX5_child_11 : decode cX5_child 11 = .ok (.invokevirtual 101, 3) := by decide +kernel
theorem dX5_child_14 : decode cX5_child 14 = .ok (.goto 5, 3) := by decide +kernel
theorem dX5_child_17 : decode cX5_child 17 = .ok (.bipush (-101), 2) := by decide +kernel
theorem dX5_child_19 : decode cX5_child 19 = .ok (.ireturn, 1) := by decide +kernel
set_option maxRecDepth 20000 in
theorem ggX5_as_X5_isChild : GoodIn wsX5_as wsX5_isChild := goodIn_r _ [7, 8, 9, 10, 6, 11, 12, 13, 14, 15, 16, 17, 18, 19, 20, 21, 22, 23, 24, 25, 26, 27, 28, 29, 30, 31] (by decide +kernel) (by decide +kernel)
set_option maxRecDepth 20000 in
theorem gX5_as_X5_isChild : GoodIn wsX5_as (wsV RX5 98 RX5 yX5_isChild wsX5_isChild) := goodIn_app (goodIn_of _ (by decide +kernel)) ggX5_as_X5_isChild
set_option maxRecDepth 20000 in
theorem ggX5_as_X5_in : GoodIn wsX5_as wsX5_in := goodIn_r _ [11] (by decide +kernel) (by decide +kernel)
set_option maxRecDepth 20000 in
theorem gX5_as_X5_in : GoodIn wsX5_as (va_wsS RX5 37 yX5_in wsX5_in) := goodIn_app (goodIn_of _ (by decide +kernel)) ggX5_as_X5_in
theorem dX5_as_0 : decode cX5_as 0 = .ok (.aload_n 0, 1) := by decide +kernel
theorem dX5_as_1 : decode cX5_as 1 = .ok (.iload_n 1, 1) := by decide +kernel
theorem dX5_as_2 : decode cX5_as 2 = .ok (.invokevirtual 98, 3) := by decide +kernel
theorem dX5_as_5 : decode cX5_as 5 = .ok (.ifCond .ne 6, 3) := by decide +kernel
theorem dX5_as_8 : decode cX5_as 8 = .ok (.bipush (-101), 2) := by decide +kernel
theorem dX5_as_10 : decode cX5_as 10 = .ok (.ireturn, 1) := by decide +kernel
theorem dX5_as_11 : decode cX5_as 11 = .ok (.iload_n 2, 1) := by decide +kernel
theorem dX5_as_12 : decode cX5_as 12 = .ok (.i2l, 1) := by decide +kernel
theorem dX5_as_13 : decode cX5_as 13 = .ok (.lconst 0, 1) := by decide +kernel
theorem dX5_as_14 : decode cX5_as 14 = .ok (.ldc2_w 104, 3) := by decide +kernel
theorem dX5_as_17 : decode cX5_as 17 = .ok (.invokestatic 37, 3) := by decide +kernel
theorem dX5_as_20 : decode cX5_as 20 = .ok (.ifCond .ne 6, 3) := by decide +kernel
theorem dX5_as_23 : decode cX5_as 23 = .ok (.bipush (-102), 2) := by decide +kernel
theorem dX5_as_25 : decode cX5_as 25 = .ok (.ireturn, 1) := by decide +kernel
theorem dX5_as_26 : decode cX5_as 26 = .ok (.aload_n 0, 1) := by decide +kernel
theorem dX5_as_27 : decode cX5_as 27 = .ok (.getfield 13, 3) := by decide +kernel
theorem dX5_as_30 : decode cX5_as 30 = .ok (.iconst 4, 1) := by decide +kernel
theorem dX5_as_31 : decode cX5_as 31 = .ok (.iload_n 1, 1) := by decide +kernel
theorem dX5_as_32 : decode cX5_as 32 = .ok (.imul, 1) := by decide +kernel
theorem dX5_as_33 : decode cX5_as 33 = .ok (.iaload, 1) := by decide +kernel
theorem dX5_as_34 : decode cX5_as 34 = .ok (.istore_n 3, 1) := by decide +kernel
theorem dX5_as_35 : decode cX5_as 35 = .ok (.iload_n 2, 1) := by decide +kernel
theorem dX5_as_36 : decode cX5_as 36 = .ok (.ifCond .eq 18, 3) := by decide +kernel
theorem dX5_as_39 : decode cX5_as 39 = .ok (.iload_n 2, 1) := by decide +kernel
theorem dX5_as_40 : decode cX5_as 40 = .ok (.iload_n 3, 1) := by decide +kernel
theorem dX5_as_41 : decode cX5_as 41 = .ok (.if_icmp .eq 13, 3) := by decide +kernel
theorem dX5_as_44 : decode cX5_as 44 = .ok (.iload_n 2, 1) := by decide +kernel
theorem dX5_as_45 : decode cX5_as 45 = .ok (.iconst 1, 1) := by decide +kernel
theorem dX5_as_46 : decode cX5_as 46 = .ok (.if_icmp .ne 12, 3) := by decide +kernel
theorem dX5_as_49 : decode cX5_as 49 = .ok (.iload_n 3, 1) := by decide +kernel
theorem dX5_as_50 : decode cX5_as 50 = .ok (.iconst 4, 1) := by decide +kernel
theorem dX5_as_51 : decode cX5_as 51 = .ok (.if_icmp .ne 7, 3) := by decide +kernel
theorem dX5_as_54 : decode cX5_as 54 = .ok (.iconst 1, 1) := by decide +kernel
theorem dX5_as_55 : decode cX5_as 55 = .ok (.goto 4, 3) := by decide +kernel
theorem dX5_as_58 : decode cX5_as 58 = .ok (.iconst 0, 1) := by decide +kernel
theorem dX5_as_59 : decode cX5_as 59 = .ok (.istore 4, 2) := by decide +kernel
theorem dX5_as_61 : decode cX5_as 61 = .ok (.iload 4, 2) := by decide +kernel
theorem dX5_as_63 : decode cX5_as 63 = .ok (.ifCond .eq 7, 3) := by decide +kernel
theorem dX5_as_66 : decode cX5_as 66 = .ok (.iload_n 1, 1) := by decide +kernel
theorem dX5_as_67 : decode cX5_as 67 = .ok (.goto 4, 3) := by decide +kernel
theorem dX5_as_70 : decode cX5_as 70 = .ok (.iconst (-1), 1) := by decide +kernel
theorem dX5_as_71 : decode cX5_as 71 = .ok (.ireturn, 1) := by decide +kernel
set_option maxRecDepth 20000 in
theorem ggX5_teaches_X5_isChild : GoodIn wsX5_teaches wsX5_isChild := goodIn_r _ [5, 6, 7, 8, 4, 9, 22, 23, 24, 25, 26, 27, 28, 29, 30, 31, 32, 33, 34, 35, 36, 37, 38, 39, 40, 41] (by decide +kernel) (by decide +kernel)
set_option maxRecDepth 20000 in
theorem gX5_teaches_X5_isChild : GoodIn wsX5_teaches (wsV RX5 98 RX5 yX5_isChild wsX5_isChild) := goodIn_app (goodIn_of _ (by decide +kernel)) ggX5_teaches_X5_isChild
set_option maxRecDepth 20000 in
theorem ggX5_teaches_X5_isRule : GoodIn wsX5_teaches wsX5_isRule := goodIn_r _ [12, 13, 7, 8, 4, 9] (by decide +kernel) (by decide +kernel)
set_option maxRecDepth 20000 in
theorem gX5_teaches_X5_isRule : GoodIn wsX5_teaches (va_wsS RX5 106 yX5_isRule wsX5_isRule) := goodIn_app (goodIn_of _ (by decide +kernel)) ggX5_teaches_X5_isRule
set_option maxRecDepth 20000 in
theorem ggX5_teaches_X5_teachesOf : GoodIn wsX5_teaches wsX5_teachesOf := goodIn_r _ [17, 18, 19, 20, 4, 21, 22, 23, 24, 25, 26, 27, 28, 29, 30, 31, 32, 33, 34, 35, 36, 37, 38, 39, 40, 41] (by decide +kernel) (by decide +kernel)
set_option maxRecDepth 20000 in
theorem gX5_teaches_X5_teachesOf : GoodIn wsX5_teaches (wsV RX5 85 RX5 yX5_teachesOf wsX5_teachesOf) := goodIn_app (goodIn_of _ (by decide +kernel)) ggX5_teaches_X5_teachesOf
theorem dX5_teaches_0 : decode cX5_teaches 0 = .ok (.aload_n 0, 1) := by decide +kernel
theorem dX5_teaches_1 : decode cX5_teaches 1 = .ok (.iload_n 1, 1) := by decide +kernel
theorem dX5_teaches_2 : decode cX5_teaches 2 = .ok (.invokevirtual 98, 3) := by decide +kernel
theorem dX5_teaches_5 : decode cX5_teaches 5 = .ok (.ifCond .ne 6, 3) := by decide +kernel
theorem dX5_teaches_8 : decode cX5_teaches 8 = .ok (.bipush (-101), 2) := by decide +kernel
theorem dX5_teaches_10 : decode cX5_teaches 10 = .ok (.ireturn, 1) := by decide +kernel
theorem dX5_teaches_11 : decode cX5_teaches 11 = .ok (.iload_n 2, 1) := by decide +kernel
theorem dX5_teaches_12 : decode cX5_teaches 12 = .ok (.invokestatic 106, 3) := by decide +kernel
theorem dX5_teaches_15 : decode cX5_teaches 15 = .ok (.ifCond .eq 12, 3) := by decide +kernel
theorem dX5_teaches_18 : decode cX5_teaches 18 = .ok (.aload_n 0, 1) := by decide +kernel
theorem dX5_teaches_19 : decode cX5_teaches 19 = .ok (.iload_n 1, 1) := by decide +kernel
theorem dX5_teaches_20 : decode cX5_teaches 20 = .ok (.iload_n 2, 1) := by decide +kernel
theorem dX5_teaches_21 : decode cX5_teaches 21 = .ok (.invokevirtual 85, 3) := by decide +kernel
theorem dX5_teaches_24 : decode cX5_teaches 24 = .ok (.goto 5, 3) := by decide +kernel
theorem dX5_teaches_27 : decode cX5_teaches 27 = .ok (.bipush (-102), 2) := by decide +kernel
theorem dX5_teaches_29 : decode cX5_teaches 29 = .ok (.ireturn, 1) := by decide +kernel
set_option maxRecDepth 20000 in
theorem ggX5_tell_X5_isChild : GoodIn wsX5_tell wsX5_isChild := goodIn_r _ [6, 7, 8, 9, 5, 10, 15, 16, 17, 18, 19, 20, 21, 22, 23, 24, 25, 26, 27, 28, 29, 30, 31, 32, 33, 34] (by decide +kernel) (by decide +kernel)
set_option maxRecDepth 20000 in
theorem gX5_tell_X5_isChild : GoodIn wsX5_tell (wsV RX5 98 RX5 yX5_isChild wsX5_isChild) := goodIn_app (goodIn_of _ (by decide +kernel)) ggX5_tell_X5_isChild
set_option maxRecDepth 20000 in
theorem ggX5_tell_X5_isRule : GoodIn wsX5_tell wsX5_isRule := goodIn_r _ [13, 14, 8, 9, 5, 10] (by decide +kernel) (by decide +kernel)
set_option maxRecDepth 20000 in
theorem gX5_tell_X5_isRule : GoodIn wsX5_tell (va_wsS RX5 106 yX5_isRule wsX5_isRule) := goodIn_app (goodIn_of _ (by decide +kernel)) ggX5_tell_X5_isRule
theorem dX5_tell_0 : decode cX5_tell 0 = .ok (.aload_n 0, 1) := by decide +kernel
theorem dX5_tell_1 : decode cX5_tell 1 = .ok (.iload_n 1, 1) := by decide +kernel
theorem dX5_tell_2 : decode cX5_tell 2 = .ok (.invokevirtual 98, 3) := by decide +kernel
theorem dX5_tell_5 : decode cX5_tell 5 = .ok (.ifCond .ne 6, 3) := by decide +kernel
theorem dX5_tell_8 : decode cX5_tell 8 = .ok (.bipush (-101), 2) := by decide +kernel
theorem dX5_tell_10 : decode cX5_tell 10 = .ok (.ireturn, 1) := by decide +kernel
theorem dX5_tell_11 : decode cX5_tell 11 = .ok (.iload_n 2, 1) := by decide +kernel
theorem dX5_tell_12 : decode cX5_tell 12 = .ok (.invokestatic 106, 3) := by decide +kernel
theorem dX5_tell_15 : decode cX5_tell 15 = .ok (.ifCond .ne 6, 3) := by decide +kernel
theorem dX5_tell_18 : decode cX5_tell 18 = .ok (.bipush (-102), 2) := by decide +kernel
theorem dX5_tell_20 : decode cX5_tell 20 = .ok (.ireturn, 1) := by decide +kernel
theorem dX5_tell_21 : decode cX5_tell 21 = .ok (.aload_n 0, 1) := by decide +kernel
theorem dX5_tell_22 : decode cX5_tell 22 = .ok (.getfield 13, 3) := by decide +kernel
theorem dX5_tell_25 : decode cX5_tell 25 = .ok (.iconst 4, 1) := by decide +kernel
theorem dX5_tell_26 : decode cX5_tell 26 = .ok (.iload_n 1, 1) := by decide +kernel
theorem dX5_tell_27 : decode cX5_tell 27 = .ok (.imul, 1) := by decide +kernel
theorem dX5_tell_28 : decode cX5_tell 28 = .ok (.iconst 2, 1) := by decide +kernel
theorem dX5_tell_29 : decode cX5_tell 29 = .ok (.iadd, 1) := by decide +kernel
theorem dX5_tell_30 : decode cX5_tell 30 = .ok (.iaload, 1) := by decide +kernel
theorem dX5_tell_31 : decode cX5_tell 31 = .ok (.istore_n 3, 1) := by decide +kernel
theorem dX5_tell_32 : decode cX5_tell 32 = .ok (.aload_n 0, 1) := by decide +kernel
theorem dX5_tell_33 : decode cX5_tell 33 = .ok (.getfield 13, 3) := by decide +kernel
theorem dX5_tell_36 : decode cX5_tell 36 = .ok (.iconst 4, 1) := by decide +kernel
theorem dX5_tell_37 : decode cX5_tell 37 = .ok (.iload_n 1, 1) := by decide +kernel
theorem dX5_tell_38 : decode cX5_tell 38 = .ok (.imul, 1) := by decide +kernel
theorem dX5_tell_39 : decode cX5_tell 39 = .ok (.iconst 2, 1) := by decide +kernel
theorem dX5_tell_40 : decode cX5_tell 40 = .ok (.iadd, 1) := by decide +kernel
theorem dX5_tell_41 : decode cX5_tell 41 = .ok (.iload_n 2, 1) := by decide +kernel
theorem dX5_tell_42 : decode cX5_tell 42 = .ok (.iastore, 1) := by decide +kernel
theorem dX5_tell_43 : decode cX5_tell 43 = .ok (.iload_n 3, 1) := by decide +kernel
theorem dX5_tell_44 : decode cX5_tell 44 = .ok (.ireturn, 1) := by decide +kernel
set_option maxRecDepth 20000 in
theorem ggX5_ill_X5_isChild : GoodIn wsX5_ill wsX5_isChild := goodIn_r _ [6, 7, 8, 9, 5, 10, 11, 12, 13, 14, 15, 16, 17, 18, 19, 20, 21, 22, 23, 24, 25, 26, 27, 28, 29, 30] (by decide +kernel) (by decide +kernel)
set_option maxRecDepth 20000 in
theorem gX5_ill_X5_isChild : GoodIn wsX5_ill (wsV RX5 98 RX5 yX5_isChild wsX5_isChild) := goodIn_app (goodIn_of _ (by decide +kernel)) ggX5_ill_X5_isChild
theorem dX5_ill_0 : decode cX5_ill 0 = .ok (.aload_n 0, 1) := by decide +kernel
theorem dX5_ill_1 : decode cX5_ill 1 = .ok (.iload_n 1, 1) := by decide +kernel
theorem dX5_ill_2 : decode cX5_ill 2 = .ok (.invokevirtual 98, 3) := by decide +kernel
theorem dX5_ill_5 : decode cX5_ill 5 = .ok (.ifCond .ne 6, 3) := by decide +kernel
theorem dX5_ill_8 : decode cX5_ill 8 = .ok (.bipush (-101), 2) := by decide +kernel
theorem dX5_ill_10 : decode cX5_ill 10 = .ok (.ireturn, 1) := by decide +kernel
theorem dX5_ill_11 : decode cX5_ill 11 = .ok (.aload_n 0, 1) := by decide +kernel
theorem dX5_ill_12 : decode cX5_ill 12 = .ok (.getfield 13, 3) := by decide +kernel
theorem dX5_ill_15 : decode cX5_ill 15 = .ok (.iconst 4, 1) := by decide +kernel
theorem dX5_ill_16 : decode cX5_ill 16 = .ok (.iload_n 1, 1) := by decide +kernel
theorem dX5_ill_17 : decode cX5_ill 17 = .ok (.imul, 1) := by decide +kernel
theorem dX5_ill_18 : decode cX5_ill 18 = .ok (.iconst 3, 1) := by decide +kernel
theorem dX5_ill_19 : decode cX5_ill 19 = .ok (.iadd, 1) := by decide +kernel
theorem dX5_ill_20 : decode cX5_ill 20 = .ok (.iaload, 1) := by decide +kernel
theorem dX5_ill_21 : decode cX5_ill 21 = .ok (.istore_n 3, 1) := by decide +kernel
theorem dX5_ill_22 : decode cX5_ill 22 = .ok (.aload_n 0, 1) := by decide +kernel
theorem dX5_ill_23 : decode cX5_ill 23 = .ok (.getfield 13, 3) := by decide +kernel
theorem dX5_ill_26 : decode cX5_ill 26 = .ok (.iconst 4, 1) := by decide +kernel
theorem dX5_ill_27 : decode cX5_ill 27 = .ok (.iload_n 1, 1) := by decide +kernel
theorem dX5_ill_28 : decode cX5_ill 28 = .ok (.imul, 1) := by decide +kernel
theorem dX5_ill_29 : decode cX5_ill 29 = .ok (.iconst 3, 1) := by decide +kernel
theorem dX5_ill_30 : decode cX5_ill 30 = .ok (.iadd, 1) := by decide +kernel
theorem dX5_ill_31 : decode cX5_ill 31 = .ok (.iload_n 2, 1) := by decide +kernel
theorem dX5_ill_32 : decode cX5_ill 32 = .ok (.ifCond .eq 7, 3) := by decide +kernel
theorem dX5_ill_35 : decode cX5_ill 35 = .ok (.iconst 1, 1) := by decide +kernel
theorem dX5_ill_36 : decode cX5_ill 36 = .ok (.goto 4, 3) := by decide +kernel
theorem dX5_ill_39 : decode cX5_ill 39 = .ok (.iconst 0, 1) := by decide +kernel
theorem dX5_ill_40 : decode cX5_ill 40 = .ok (.iastore, 1) := by decide +kernel
theorem dX5_ill_41 : decode cX5_ill 41 = .ok (.iload_n 3, 1) := by decide +kernel
theorem dX5_ill_42 : decode cX5_ill 42 = .ok (.ireturn, 1) := by decide +kernel
set_option maxRecDepth 20000 in
theorem ggX5_slip_X5_isChild : GoodIn wsX5_slip wsX5_isChild := goodIn_r _ [7, 8, 9, 10, 6, 11, 12, 13, 14, 15, 16, 17, 18, 19, 20, 21, 22, 23, 24, 25, 26, 27, 28, 29, 30, 31] (by decide +kernel) (by decide +kernel)
set_option maxRecDepth 20000 in
theorem gX5_slip_X5_isChild : GoodIn wsX5_slip (wsV RX5 98 RX5 yX5_isChild wsX5_isChild) := goodIn_app (goodIn_of _ (by decide +kernel)) ggX5_slip_X5_isChild
set_option maxRecDepth 20000 in
theorem ggX5_slip_X5_in : GoodIn wsX5_slip wsX5_in := goodIn_r _ [11] (by decide +kernel) (by decide +kernel)
set_option maxRecDepth 20000 in
theorem gX5_slip_X5_in : GoodIn wsX5_slip (va_wsS RX5 37 yX5_in wsX5_in) := goodIn_app (goodIn_of _ (by decide +kernel)) ggX5_slip_X5_in
theorem dX5_slip_0 : decode cX5_slip 0 = .ok (.aload_n 0, 1) := by decide +kernel
theorem dX5_slip_1 : decode cX5_slip 1 = .ok (.iload_n 1, 1) := by decide +kernel
theorem dX5_slip_2 : decode cX5_slip 2 = .ok (.invokevirtual 98, 3) := by decide +kernel
theorem dX5_slip_5 : decode cX5_slip 5 = .ok (.ifCond .ne 6, 3) := by decide +kernel
theorem dX5_slip_8 : decode cX5_slip 8 = .ok (.bipush (-101), 2) := by decide +kernel
theorem dX5_slip_10 : decode cX5_slip 10 = .ok (.ireturn, 1) := by decide +kernel
theorem dX5_slip_11 : decode cX5_slip 11 = .ok (.iload_n 2, 1) := by decide +kernel
theorem dX5_slip_12 : decode cX5_slip 12 = .ok (.i2l, 1) := by decide +kernel
theorem dX5_slip_13 : decode cX5_slip 13 = .ok (.lconst 0, 1) := by decide +kernel
theorem dX5_slip_14 : decode cX5_slip 14 = .ok (.ldc2_w 109, 3) := by decide +kernel
theorem dX5_slip_17 : decode cX5_slip 17 = .ok (.invokestatic 37, 3) := by decide +kernel
theorem dX5_slip_20 : decode cX5_slip 20 = .ok (.ifCond .ne 6, 3) := by decide +kernel
theorem dX5_slip_23 : decode cX5_slip 23 = .ok (.bipush (-102), 2) := by decide +kernel
theorem dX5_slip_25 : decode cX5_slip 25 = .ok (.ireturn, 1) := by decide +kernel
theorem dX5_slip_26 : decode cX5_slip 26 = .ok (.aload_n 0, 1) := by decide +kernel
theorem dX5_slip_27 : decode cX5_slip 27 = .ok (.getfield 13, 3) := by decide +kernel
theorem dX5_slip_30 : decode cX5_slip 30 = .ok (.iconst 4, 1) := by decide +kernel
theorem dX5_slip_31 : decode cX5_slip 31 = .ok (.iload_n 1, 1) := by decide +kernel
theorem dX5_slip_32 : decode cX5_slip 32 = .ok (.imul, 1) := by decide +kernel
theorem dX5_slip_33 : decode cX5_slip 33 = .ok (.iconst 1, 1) := by decide +kernel
theorem dX5_slip_34 : decode cX5_slip 34 = .ok (.iadd, 1) := by decide +kernel
theorem dX5_slip_35 : decode cX5_slip 35 = .ok (.iaload, 1) := by decide +kernel
theorem dX5_slip_36 : decode cX5_slip 36 = .ok (.istore_n 3, 1) := by decide +kernel
theorem dX5_slip_37 : decode cX5_slip 37 = .ok (.aload_n 0, 1) := by decide +kernel
theorem dX5_slip_38 : decode cX5_slip 38 = .ok (.getfield 13, 3) := by decide +kernel
theorem dX5_slip_41 : decode cX5_slip 41 = .ok (.iconst 4, 1) := by decide +kernel
theorem dX5_slip_42 : decode cX5_slip 42 = .ok (.iload_n 1, 1) := by decide +kernel
theorem dX5_slip_43 : decode cX5_slip 43 = .ok (.imul, 1) := by decide +kernel
theorem dX5_slip_44 : decode cX5_slip 44 = .ok (.iconst 1, 1) := by decide +kernel
theorem dX5_slip_45 : decode cX5_slip 45 = .ok (.iadd, 1) := by decide +kernel
theorem dX5_slip_46 : decode cX5_slip 46 = .ok (.iload_n 2, 1) := by decide +kernel
theorem dX5_slip_47 : decode cX5_slip 47 = .ok (.iastore, 1) := by decide +kernel
theorem dX5_slip_48 : decode cX5_slip 48 = .ok (.iload_n 3, 1) := by decide +kernel
theorem dX5_slip_49 : decode cX5_slip 49 = .ok (.ireturn, 1) := by decide +kernel
set_option maxRecDepth 20000 in
theorem ggX5_goesUp_X5_wouldTeach : GoodIn wsX5_goesUp wsX5_wouldTeach := goodIn_r _ [8, 3, 9, 10, 11, 7, 12, 13, 14, 15, 16, 17, 18, 19, 20, 21, 22, 23, 24, 25, 26, 27, 28, 29, 30, 31, 32, 33, 34, 35, 36, 37, 38, 39] (by decide +kernel) (by decide +kernel)
set_option maxRecDepth 20000 in
theorem gX5_goesUp_X5_wouldTeach : GoodIn wsX5_goesUp (wsV RX5 89 RX5 yX5_wouldTeach wsX5_wouldTeach) := goodIn_app (goodIn_of _ (by decide +kernel)) ggX5_goesUp_X5_wouldTeach
set_option maxRecDepth 20000 in
theorem ggX5_goesUp_X5_isIll : GoodIn wsX5_goesUp wsX5_isIll := goodIn_r _ [12, 3, 20, 21, 22, 23, 24, 25, 26, 27, 28, 29, 30, 31, 32, 33, 34, 35, 36, 37, 38, 39] (by decide +kernel) (by decide +kernel)
set_option maxRecDepth 20000 in
theorem gX5_goesUp_X5_isIll : GoodIn wsX5_goesUp (wsV RX5 81 RX5 yX5_isIll wsX5_isIll) := goodIn_app (goodIn_of _ (by decide +kernel)) ggX5_goesUp_X5_isIll
theorem dX5_goesUp_0 : decode cX5_goesUp 0 = .ok (.iconst 0, 1) := by decide +kernel
theorem dX5_goesUp_1 : decode cX5_goesUp 1 = .ok (.istore_n 1, 1) := by decide +kernel
theorem dX5_goesUp_2 : decode cX5_goesUp 2 = .ok (.aload_n 0, 1) := by decide +kernel
theorem dX5_goesUp_3 : decode cX5_goesUp 3 = .ok (.iconst 0, 1) := by decide +kernel
theorem dX5_goesUp_4 : decode cX5_goesUp 4 = .ok (.putfield 111, 3) := by decide +kernel
theorem dX5_goesUp_7 : decode cX5_goesUp 7 = .ok (.aload_n 0, 1) := by decide +kernel
theorem dX5_goesUp_8 : decode cX5_goesUp 8 = .ok (.getfield 60, 3) := by decide +kernel
theorem dX5_goesUp_11 : decode cX5_goesUp 11 = .ok (.iconst 2, 1) := by decide +kernel
theorem dX5_goesUp_12 : decode cX5_goesUp 12 = .ok (.isub, 1) := by decide +kernel
theorem dX5_goesUp_13 : decode cX5_goesUp 13 = .ok (.istore_n 2, 1) := by decide +kernel
theorem dX5_goesUp_14 : decode cX5_goesUp 14 = .ok (.iload_n 2, 1) := by decide +kernel
theorem dX5_goesUp_15 : decode cX5_goesUp 15 = .ok (.ifCond .lt 71, 3) := by decide +kernel
theorem dX5_goesUp_18 : decode cX5_goesUp 18 = .ok (.aload_n 0, 1) := by decide +kernel
theorem dX5_goesUp_19 : decode cX5_goesUp 19 = .ok (.iload_n 2, 1) := by decide +kernel
theorem dX5_goesUp_20 : decode cX5_goesUp 20 = .ok (.invokevirtual 89, 3) := by decide +kernel
theorem dX5_goesUp_23 : decode cX5_goesUp 23 = .ok (.istore_n 3, 1) := by decide +kernel
theorem dX5_goesUp_24 : decode cX5_goesUp 24 = .ok (.iload_n 3, 1) := by decide +kernel
theorem dX5_goesUp_25 : decode cX5_goesUp 25 = .ok (.iconst (-1), 1) := by decide +kernel
theorem dX5_goesUp_26 : decode cX5_goesUp 26 = .ok (.if_icmp .eq 54, 3) := by decide +kernel
theorem dX5_goesUp_29 : decode cX5_goesUp 29 = .ok (.aload_n 0, 1) := by decide +kernel
theorem dX5_goesUp_30 : decode cX5_goesUp 30 = .ok (.iload_n 2, 1) := by decide +kernel
theorem dX5_goesUp_31 : decode cX5_goesUp 31 = .ok (.iconst 1, 1) := by decide +kernel
theorem dX5_goesUp_32 : decode cX5_goesUp 32 = .ok (.iadd, 1) := by decide +kernel
theorem dX5_goesUp_33 : decode cX5_goesUp 33 = .ok (.invokevirtual 81, 3) := by decide +kernel
theorem dX5_goesUp_36 : decode cX5_goesUp 36 = .ok (.ifCond .ne 44, 3) := by decide +kernel
theorem dX5_goesUp_39 : decode cX5_goesUp 39 = .ok (.aload_n 0, 1) := by decide +kernel
theorem dX5_goesUp_40 : decode cX5_goesUp 40 = .ok (.getfield 13, 3) := by decide +kernel
theorem dX5_goesUp_43 : decode cX5_goesUp 43 = .ok (.iconst 4, 1) := by decide +kernel
theorem dX5_goesUp_44 : decode cX5_goesUp 44 = .ok (.iload_n 2, 1) := by decide +kernel
theorem dX5_goesUp_45 : decode cX5_goesUp 45 = .ok (.imul, 1) := by decide +kernel
theorem dX5_goesUp_46 : decode cX5_goesUp 46 = .ok (.bipush 6, 2) := by decide +kernel
theorem dX5_goesUp_48 : decode cX5_goesUp 48 = .ok (.iadd, 1) := by decide +kernel
theorem dX5_goesUp_49 : decode cX5_goesUp 49 = .ok (.iload_n 3, 1) := by decide +kernel
theorem dX5_goesUp_50 : decode cX5_goesUp 50 = .ok (.iastore, 1) := by decide +kernel
theorem dX5_goesUp_51 : decode cX5_goesUp 51 = .ok (.iinc 1 1, 3) := by decide +kernel
theorem dX5_goesUp_54 : decode cX5_goesUp 54 = .ok (.aload_n 0, 1) := by decide +kernel
theorem dX5_goesUp_55 : decode cX5_goesUp 55 = .ok (.aload_n 0, 1) := by decide +kernel
theorem dX5_goesUp_56 : decode cX5_goesUp 56 = .ok (.getfield 111, 3) := by decide +kernel
theorem dX5_goesUp_59 : decode cX5_goesUp 59 = .ok (.ifCond .ne 13, 3) := by decide +kernel
theorem dX5_goesUp_62 : decode cX5_goesUp 62 = .ok (.iload_n 2, 1) := by decide +kernel
theorem dX5_goesUp_63 : decode cX5_goesUp 63 = .ok (.aload_n 0, 1) := by decide +kernel
theorem dX5_goesUp_64 : decode cX5_goesUp 64 = .ok (.getfield 60, 3) := by decide +kernel
theorem dX5_goesUp_67 : decode cX5_goesUp 67 = .ok (.iconst 2, 1) := by decide +kernel
theorem dX5_goesUp_68 : decode cX5_goesUp 68 = .ok (.isub, 1) := by decide +kernel
theorem dX5_goesUp_69 : decode cX5_goesUp 69 = .ok (.if_icmp .ne 7, 3) := by decide +kernel
theorem dX5_goesUp_72 : decode cX5_goesUp 72 = .ok (.iconst 1, 1) := by decide +kernel
theorem dX5_goesUp_73 : decode cX5_goesUp 73 = .ok (.goto 4, 3) := by decide +kernel
theorem dX5_goesUp_76 : decode cX5_goesUp 76 = .ok (.iconst 0, 1) := by decide +kernel
theorem dX5_goesUp_77 : decode cX5_goesUp 77 = .ok (.putfield 111, 3) := by decide +kernel
theorem dX5_goesUp_80 : decode cX5_goesUp 80 = .ok (.iinc 2 (-1), 3) := by decide +kernel
theorem dX5_goesUp_83 : decode cX5_goesUp 83 = .ok (.goto (-69), 3) := by decide +kernel
theorem dX5_goesUp_86 : decode cX5_goesUp 86 = .ok (.iload_n 1, 1) := by decide +kernel
theorem dX5_goesUp_87 : decode cX5_goesUp 87 = .ok (.ireturn, 1) := by decide +kernel
set_option maxRecDepth 20000 in
theorem ggX5_thursday_X5_lacks : GoodIn wsX5_thursday wsX5_lacks := goodIn_r _ [7, 8, 30, 31, 32, 33, 34, 35, 36, 37, 38, 39, 40, 41, 42, 43, 44, 45, 46, 47, 48, 49] (by decide +kernel) (by decide +kernel)
set_option maxRecDepth 20000 in
theorem gX5_thursday_X5_lacks : GoodIn wsX5_thursday (wsV RX5 115 RX5 yX5_lacks wsX5_lacks) := goodIn_app (goodIn_of _ (by decide +kernel)) ggX5_thursday_X5_lacks
set_option maxRecDepth 20000 in
theorem ggX5_thursday_X5_goesUp : GoodIn wsX5_thursday wsX5_goesUp := goodIn_r _ [12, 13, 8, 14, 15, 16, 17, 6, 18, 19, 20, 21, 22, 23, 24, 25, 26, 27, 28, 29, 30, 31, 32, 33, 34, 35, 36, 37, 38, 39, 40, 41, 42, 43, 44, 45, 46, 47, 48, 49] (by decide +kernel) (by decide +kernel)
set_option maxRecDepth 20000 in
theorem gX5_thursday_X5_goesUp : GoodIn wsX5_thursday (wsV RX5 119 RX5 yX5_goesUp wsX5_goesUp) := goodIn_app (goodIn_of _ (by decide +kernel)) ggX5_thursday_X5_goesUp
theorem dX5_thursday_0 : decode cX5_thursday 0 = .ok (.aload_n 0, 1) := by decide +kernel
theorem dX5_thursday_1 : decode cX5_thursday 1 = .ok (.invokevirtual 115, 3) := by decide +kernel
theorem dX5_thursday_4 : decode cX5_thursday 4 = .ok (.ifCond .eq 6, 3) := by decide +kernel
theorem dX5_thursday_7 : decode cX5_thursday 7 = .ok (.bipush (-103), 2) := by decide +kernel
theorem dX5_thursday_9 : decode cX5_thursday 9 = .ok (.ireturn, 1) := by decide +kernel
theorem dX5_thursday_10 : decode cX5_thursday 10 = .ok (.aload_n 0, 1) := by decide +kernel
theorem dX5_thursday_11 : decode cX5_thursday 11 = .ok (.invokevirtual 119, 3) := by decide +kernel
theorem dX5_thursday_14 : decode cX5_thursday 14 = .ok (.istore_n 1, 1) := by decide +kernel
theorem dX5_thursday_15 : decode cX5_thursday 15 = .ok (.aload_n 0, 1) := by decide +kernel
theorem dX5_thursday_16 : decode cX5_thursday 16 = .ok (.dup, 1) := by decide +kernel
theorem dX5_thursday_17 : decode cX5_thursday 17 = .ok (.getfield 63, 3) := by decide +kernel
theorem dX5_thursday_20 : decode cX5_thursday 20 = .ok (.iconst 1, 1) := by decide +kernel
theorem dX5_thursday_21 : decode cX5_thursday 21 = .ok (.iadd, 1) := by decide +kernel
theorem dX5_thursday_22 : decode cX5_thursday 22 = .ok (.putfield 63, 3) := by decide +kernel
theorem dX5_thursday_25 : decode cX5_thursday 25 = .ok (.aload_n 0, 1) := by decide +kernel
theorem dX5_thursday_26 : decode cX5_thursday 26 = .ok (.dup, 1) := by decide +kernel
theorem dX5_thursday_27 : decode cX5_thursday 27 = .ok (.getfield 66, 3) := by decide +kernel
theorem dX5_thursday_30 : decode cX5_thursday 30 = .ok (.iload_n 1, 1) := by decide +kernel
theorem dX5_thursday_31 : decode cX5_thursday 31 = .ok (.iadd, 1) := by decide +kernel
theorem dX5_thursday_32 : decode cX5_thursday 32 = .ok (.putfield 66, 3) := by decide +kernel
theorem dX5_thursday_35 : decode cX5_thursday 35 = .ok (.iload_n 1, 1) := by decide +kernel
theorem dX5_thursday_36 : decode cX5_thursday 36 = .ok (.ireturn, 1) := by decide +kernel
set_option maxRecDepth 20000 in
theorem ggX5_arrivesOf_X5_teachesOf : GoodIn wsX5_arrivesOf wsX5_teachesOf := goodIn_r _ [6, 7, 8, 9, 5, 10, 11, 12, 13, 14, 15, 16, 17, 18, 19, 20, 21, 22, 23, 24, 25, 26, 27, 28, 29, 30] (by decide +kernel) (by decide +kernel)
set_option maxRecDepth 20000 in
theorem gX5_arrivesOf_X5_teachesOf : GoodIn wsX5_arrivesOf (wsV RX5 85 RX5 yX5_teachesOf wsX5_teachesOf) := goodIn_app (goodIn_of _ (by decide +kernel)) ggX5_arrivesOf_X5_teachesOf
theorem dX5_arrivesOf_0 : decode cX5_arrivesOf 0 = .ok (.iload_n 2, 1) := by decide +kernel
theorem dX5_arrivesOf_1 : decode cX5_arrivesOf 1 = .ok (.istore_n 3, 1) := by decide +kernel
theorem dX5_arrivesOf_2 : decode cX5_arrivesOf 2 = .ok (.iload_n 1, 1) := by decide +kernel
theorem dX5_arrivesOf_3 : decode cX5_arrivesOf 3 = .ok (.istore 4, 2) := by decide +kernel
theorem dX5_arrivesOf_5 : decode cX5_arrivesOf 5 = .ok (.iload 4, 2) := by decide +kernel
theorem dX5_arrivesOf_7 : decode cX5_arrivesOf 7 = .ok (.aload_n 0, 1) := by decide +kernel
theorem dX5_arrivesOf_8 : decode cX5_arrivesOf 8 = .ok (.getfield 60, 3) := by decide +kernel
theorem dX5_arrivesOf_11 : decode cX5_arrivesOf 11 = .ok (.iconst 1, 1) := by decide +kernel
theorem dX5_arrivesOf_12 : decode cX5_arrivesOf 12 = .ok (.isub, 1) := by decide +kernel
theorem dX5_arrivesOf_13 : decode cX5_arrivesOf 13 = .ok (.if_icmp .ge 17, 3) := by decide +kernel
theorem dX5_arrivesOf_16 : decode cX5_arrivesOf 16 = .ok (.aload_n 0, 1) := by decide +kernel
theorem dX5_arrivesOf_17 : decode cX5_arrivesOf 17 = .ok (.iload 4, 2) := by decide +kernel
theorem dX5_arrivesOf_19 : decode cX5_arrivesOf 19 = .ok (.iload_n 3, 1) := by decide +kernel
theorem dX5_arrivesOf_20 : decode cX5_arrivesOf 20 = .ok (.invokevirtual 85, 3) := by decide +kernel
theorem dX5_arrivesOf_23 : decode cX5_arrivesOf 23 = .ok (.istore_n 3, 1) := by decide +kernel
theorem dX5_arrivesOf_24 : decode cX5_arrivesOf 24 = .ok (.iinc 4 1, 3) := by decide +kernel
theorem dX5_arrivesOf_27 : decode cX5_arrivesOf 27 = .ok (.goto (-22), 3) := by decide +kernel
theorem dX5_arrivesOf_30 : decode cX5_arrivesOf 30 = .ok (.iload_n 3, 1) := by decide +kernel
theorem dX5_arrivesOf_31 : decode cX5_arrivesOf 31 = .ok (.ireturn, 1) := by decide +kernel
set_option maxRecDepth 20000 in
theorem ggX5_arrives_X5_isChild : GoodIn wsX5_arrives wsX5_isChild := goodIn_r _ [5, 6, 7, 8, 4, 9, 26, 27, 28, 29, 30, 31, 32, 33, 34, 35, 36, 37, 38, 39, 40, 41, 42, 43, 44, 45] (by decide +kernel) (by decide +kernel)
set_option maxRecDepth 20000 in
theorem gX5_arrives_X5_isChild : GoodIn wsX5_arrives (wsV RX5 98 RX5 yX5_isChild wsX5_isChild) := goodIn_app (goodIn_of _ (by decide +kernel)) ggX5_arrives_X5_isChild
set_option maxRecDepth 20000 in
theorem ggX5_arrives_X5_isRule : GoodIn wsX5_arrives wsX5_isRule := goodIn_r _ [12, 13, 7, 8, 4, 9] (by decide +kernel) (by decide +kernel)
set_option maxRecDepth 20000 in
theorem gX5_arrives_X5_isRule : GoodIn wsX5_arrives (va_wsS RX5 106 yX5_isRule wsX5_isRule) := goodIn_app (goodIn_of _ (by decide +kernel)) ggX5_arrives_X5_isRule
set_option maxRecDepth 20000 in
theorem ggX5_arrives_X5_arrivesOf : GoodIn wsX5_arrives wsX5_arrivesOf := goodIn_r _ [17, 6, 18, 19, 20, 4, 21, 22, 23, 24, 25, 26, 27, 28, 29, 30, 31, 32, 33, 34, 35, 36, 37, 38, 39, 40, 41, 42, 43, 44, 45] (by decide +kernel) (by decide +kernel)
set_option maxRecDepth 20000 in
theorem gX5_arrives_X5_arrivesOf : GoodIn wsX5_arrives (wsV RX5 122 RX5 yX5_arrivesOf wsX5_arrivesOf) := goodIn_app (goodIn_of _ (by decide +kernel)) ggX5_arrives_X5_arrivesOf
theorem dX5_arrives_0 : decode cX5_arrives 0 = .ok (.aload_n 0, 1) := by decide +kernel
theorem dX5_arrives_1 : decode cX5_arrives 1 = .ok (.iload_n 1, 1) := by decide +kernel
theorem dX5_arrives_2 : decode cX5_arrives 2 = .ok (.invokevirtual 98, 3) := by decide +kernel
theorem dX5_arrives_5 : decode cX5_arrives 5 = .ok (.ifCond .ne 6, 3) := by decide +kernel
theorem dX5_arrives_8 : decode cX5_arrives 8 = .ok (.bipush (-101), 2) := by decide +kernel
theorem dX5_arrives_10 : decode cX5_arrives 10 = .ok (.ireturn, 1) := by decide +kernel
theorem dX5_arrives_11 : decode cX5_arrives 11 = .ok (.iload_n 2, 1) := by decide +kernel
theorem dX5_arrives_12 : decode cX5_arrives 12 = .ok (.invokestatic 106, 3) := by decide +kernel
theorem dX5_arrives_15 : decode cX5_arrives 15 = .ok (.ifCond .eq 12, 3) := by decide +kernel
theorem dX5_arrives_18 : decode cX5_arrives 18 = .ok (.aload_n 0, 1) := by decide +kernel
theorem dX5_arrives_19 : decode cX5_arrives 19 = .ok (.iload_n 1, 1) := by decide +kernel
theorem dX5_arrives_20 : decode cX5_arrives 20 = .ok (.iload_n 2, 1) := by decide +kernel
theorem dX5_arrives_21 : decode cX5_arrives 21 = .ok (.invokevirtual 122, 3) := by decide +kernel
theorem dX5_arrives_24 : decode cX5_arrives 24 = .ok (.goto 5, 3) := by decide +kernel
theorem dX5_arrives_27 : decode cX5_arrives 27 = .ok (.bipush (-102), 2) := by decide +kernel
theorem dX5_arrives_29 : decode cX5_arrives 29 = .ok (.ireturn, 1) := by decide +kernel
set_option maxRecDepth 20000 in
theorem ggX5_fromOf_X5_arrivesOf : GoodIn wsX5_fromOf wsX5_arrivesOf := goodIn_r _ [5, 6, 7, 8, 9, 4, 10, 11, 12, 13, 14, 15, 16, 17, 18, 19, 20, 21, 22, 23, 24, 25, 26, 27, 28, 29, 30, 31, 32, 33, 34] (by decide +kernel) (by decide +kernel)
set_option maxRecDepth 20000 in
theorem gX5_fromOf_X5_arrivesOf : GoodIn wsX5_fromOf (wsV RX5 122 RX5 yX5_arrivesOf wsX5_arrivesOf) := goodIn_app (goodIn_of _ (by decide +kernel)) ggX5_fromOf_X5_arrivesOf
theorem dX5_fromOf_0 : decode cX5_fromOf 0 = .ok (.iconst 0, 1) := by decide +kernel
theorem dX5_fromOf_1 : decode cX5_fromOf 1 = .ok (.istore_n 3, 1) := by decide +kernel
theorem dX5_fromOf_2 : decode cX5_fromOf 2 = .ok (.iconst 0, 1) := by decide +kernel
theorem dX5_fromOf_3 : decode cX5_fromOf 3 = .ok (.istore 4, 2) := by decide +kernel
theorem dX5_fromOf_5 : decode cX5_fromOf 5 = .ok (.iload 4, 2) := by decide +kernel
theorem dX5_fromOf_7 : decode cX5_fromOf 7 = .ok (.bipush 12, 2) := by decide +kernel
theorem dX5_fromOf_9 : decode cX5_fromOf 9 = .ok (.if_icmp .ge 31, 3) := by decide +kernel
theorem dX5_fromOf_12 : decode cX5_fromOf 12 = .ok (.iload_n 3, 1) := by decide +kernel
theorem dX5_fromOf_13 : decode cX5_fromOf 13 = .ok (.aload_n 0, 1) := by decide +kernel
theorem dX5_fromOf_14 : decode cX5_fromOf 14 = .ok (.iload_n 1, 1) := by decide +kernel
theorem dX5_fromOf_15 : decode cX5_fromOf 15 = .ok (.iload 4, 2) := by decide +kernel
theorem dX5_fromOf_17 : decode cX5_fromOf 17 = .ok (.invokevirtual 122, 3) := by decide +kernel
theorem dX5_fromOf_20 : decode cX5_fromOf 20 = .ok (.iload_n 2, 1) := by decide +kernel
theorem dX5_fromOf_21 : decode cX5_fromOf 21 = .ok (.if_icmp .ne 10, 3) := by decide +kernel
theorem dX5_fromOf_24 : decode cX5_fromOf 24 = .ok (.iconst 1, 1) := by decide +kernel
theorem dX5_fromOf_25 : decode cX5_fromOf 25 = .ok (.iload 4, 2) := by decide +kernel
theorem dX5_fromOf_27 : decode cX5_fromOf 27 = .ok (.ishl, 1) := by decide +kernel
theorem dX5_fromOf_28 : decode cX5_fromOf 28 = .ok (.goto 4, 3) := by decide +kernel
theorem dX5_fromOf_31 : decode cX5_fromOf 31 = .ok (.iconst 0, 1) := by decide +kernel
theorem dX5_fromOf_32 : decode cX5_fromOf 32 = .ok (.ior, 1) := by decide +kernel
theorem dX5_fromOf_33 : decode cX5_fromOf 33 = .ok (.istore_n 3, 1) := by decide +kernel
theorem dX5_fromOf_34 : decode cX5_fromOf 34 = .ok (.iinc 4 1, 3) := by decide +kernel
theorem dX5_fromOf_37 : decode cX5_fromOf 37 = .ok (.goto (-32), 3) := by decide +kernel
theorem dX5_fromOf_40 : decode cX5_fromOf 40 = .ok (.iload_n 3, 1) := by decide +kernel
theorem dX5_fromOf_41 : decode cX5_fromOf 41 = .ok (.ireturn, 1) := by decide +kernel
set_option maxRecDepth 20000 in
theorem ggX5_from_X5_isChild : GoodIn wsX5_from wsX5_isChild := goodIn_r _ [5, 6, 7, 8, 4, 9, 30, 31, 32, 33, 34, 35, 36, 37, 38, 39, 40, 41, 42, 43, 44, 45, 46, 47, 48, 49] (by decide +kernel) (by decide +kernel)
set_option maxRecDepth 20000 in
theorem gX5_from_X5_isChild : GoodIn wsX5_from (wsV RX5 98 RX5 yX5_isChild wsX5_isChild) := goodIn_app (goodIn_of _ (by decide +kernel)) ggX5_from_X5_isChild
set_option maxRecDepth 20000 in
theorem ggX5_from_X5_isRule : GoodIn wsX5_from wsX5_isRule := goodIn_r _ [12, 13, 7, 8, 4, 9] (by decide +kernel) (by decide +kernel)
set_option maxRecDepth 20000 in
theorem gX5_from_X5_isRule : GoodIn wsX5_from (va_wsS RX5 106 yX5_isRule wsX5_isRule) := goodIn_app (goodIn_of _ (by decide +kernel)) ggX5_from_X5_isRule
set_option maxRecDepth 20000 in
theorem ggX5_from_X5_fromOf : GoodIn wsX5_from wsX5_fromOf := goodIn_r _ [17, 18, 19, 20, 4, 21, 6, 22, 23, 24, 25, 26, 27, 28, 29, 30, 31, 32, 33, 34, 35, 36, 37, 38, 39, 40, 41, 42, 43, 44, 45, 46, 47, 48, 49] (by decide +kernel) (by decide +kernel)
set_option maxRecDepth 20000 in
theorem gX5_from_X5_fromOf : GoodIn wsX5_from (wsV RX5 125 RX5 yX5_fromOf wsX5_fromOf) := goodIn_app (goodIn_of _ (by decide +kernel)) ggX5_from_X5_fromOf
theorem dX5_from_0 : decode cX5_from 0 = .ok (.aload_n 0, 1) := by decide +kernel
theorem dX5_from_1 : decode cX5_from 1 = .ok (.iload_n 1, 1) := by decide +kernel
theorem dX5_from_2 : decode cX5_from 2 = .ok (.invokevirtual 98, 3) := by decide +kernel
theorem dX5_from_5 : decode cX5_from 5 = .ok (.ifCond .ne 6, 3) := by decide +kernel
theorem dX5_from_8 : decode cX5_from 8 = .ok (.bipush (-101), 2) := by decide +kernel
theorem dX5_from_10 : decode cX5_from 10 = .ok (.ireturn, 1) := by decide +kernel
theorem dX5_from_11 : decode cX5_from 11 = .ok (.iload_n 2, 1) := by decide +kernel
theorem dX5_from_12 : decode cX5_from 12 = .ok (.invokestatic 106, 3) := by decide +kernel
theorem dX5_from_15 : decode cX5_from 15 = .ok (.ifCond .eq 12, 3) := by decide +kernel
theorem dX5_from_18 : decode cX5_from 18 = .ok (.aload_n 0, 1) := by decide +kernel
theorem dX5_from_19 : decode cX5_from 19 = .ok (.iload_n 1, 1) := by decide +kernel
theorem dX5_from_20 : decode cX5_from 20 = .ok (.iload_n 2, 1) := by decide +kernel
theorem dX5_from_21 : decode cX5_from 21 = .ok (.invokevirtual 125, 3) := by decide +kernel
theorem dX5_from_24 : decode cX5_from 24 = .ok (.goto 5, 3) := by decide +kernel
theorem dX5_from_27 : decode cX5_from 27 = .ok (.bipush (-102), 2) := by decide +kernel
theorem dX5_from_29 : decode cX5_from 29 = .ok (.ireturn, 1) := by decide +kernel
set_option maxRecDepth 20000 in
theorem ggX5_soonOf_X5_isIll : GoodIn wsX5_soonOf wsX5_isIll := goodIn_r _ [7, 1, 8, 9, 10, 11, 12, 13, 14, 15, 16, 17, 18, 19, 20, 21, 22, 23, 24, 25, 26, 27] (by decide +kernel) (by decide +kernel)
set_option maxRecDepth 20000 in
theorem gX5_soonOf_X5_isIll : GoodIn wsX5_soonOf (wsV RX5 81 RX5 yX5_isIll wsX5_isIll) := goodIn_app (goodIn_of _ (by decide +kernel)) ggX5_soonOf_X5_isIll
theorem dX5_soonOf_0 : decode cX5_soonOf 0 = .ok (.aload_n 0, 1) := by decide +kernel
theorem dX5_soonOf_1 : decode cX5_soonOf 1 = .ok (.getfield 13, 3) := by decide +kernel
theorem dX5_soonOf_4 : decode cX5_soonOf 4 = .ok (.iconst 4, 1) := by decide +kernel
theorem dX5_soonOf_5 : decode cX5_soonOf 5 = .ok (.aload_n 0, 1) := by decide +kernel
theorem dX5_soonOf_6 : decode cX5_soonOf 6 = .ok (.getfield 60, 3) := by decide +kernel
theorem dX5_soonOf_9 : decode cX5_soonOf 9 = .ok (.imul, 1) := by decide +kernel
theorem dX5_soonOf_10 : decode cX5_soonOf 10 = .ok (.iconst 2, 1) := by decide +kernel
theorem dX5_soonOf_11 : decode cX5_soonOf 11 = .ok (.isub, 1) := by decide +kernel
theorem dX5_soonOf_12 : decode cX5_soonOf 12 = .ok (.iaload, 1) := by decide +kernel
theorem dX5_soonOf_13 : decode cX5_soonOf 13 = .ok (.iconst (-1), 1) := by decide +kernel
theorem dX5_soonOf_14 : decode cX5_soonOf 14 = .ok (.if_icmp .eq 5, 3) := by decide +kernel
theorem dX5_soonOf_17 : decode cX5_soonOf 17 = .ok (.iconst 0, 1) := by decide +kernel
theorem dX5_soonOf_18 : decode cX5_soonOf 18 = .ok (.ireturn, 1) := by decide +kernel
theorem dX5_soonOf_19 : decode cX5_soonOf 19 = .ok (.aload_n 0, 1) := by decide +kernel
theorem dX5_soonOf_20 : decode cX5_soonOf 20 = .ok (.getfield 60, 3) := by decide +kernel
theorem dX5_soonOf_23 : decode cX5_soonOf 23 = .ok (.iconst 1, 1) := by decide +kernel
theorem dX5_soonOf_24 : decode cX5_soonOf 24 = .ok (.isub, 1) := by decide +kernel
theorem dX5_soonOf_25 : decode cX5_soonOf 25 = .ok (.istore_n 1, 1) := by decide +kernel
theorem dX5_soonOf_26 : decode cX5_soonOf 26 = .ok (.iload_n 1, 1) := by decide +kernel
theorem dX5_soonOf_27 : decode cX5_soonOf 27 = .ok (.ifCond .lt 40, 3) := by decide +kernel
theorem dX5_soonOf_30 : decode cX5_soonOf 30 = .ok (.aload_n 0, 1) := by decide +kernel
theorem dX5_soonOf_31 : decode cX5_soonOf 31 = .ok (.iload_n 1, 1) := by decide +kernel
theorem dX5_soonOf_32 : decode cX5_soonOf 32 = .ok (.invokevirtual 81, 3) := by decide +kernel
theorem dX5_soonOf_35 : decode cX5_soonOf 35 = .ok (.ifCond .ne 32, 3) := by decide +kernel
theorem dX5_soonOf_38 : decode cX5_soonOf 38 = .ok (.aload_n 0, 1) := by decide +kernel
theorem dX5_soonOf_39 : decode cX5_soonOf 39 = .ok (.getfield 13, 3) := by decide +kernel
theorem dX5_soonOf_42 : decode cX5_soonOf 42 = .ok (.iconst 4, 1) := by decide +kernel
theorem dX5_soonOf_43 : decode cX5_soonOf 43 = .ok (.iload_n 1, 1) := by decide +kernel
theorem dX5_soonOf_44 : decode cX5_soonOf 44 = .ok (.imul, 1) := by decide +kernel
theorem dX5_soonOf_45 : decode cX5_soonOf 45 = .ok (.iconst 2, 1) := by decide +kernel
theorem dX5_soonOf_46 : decode cX5_soonOf 46 = .ok (.iadd, 1) := by decide +kernel
theorem dX5_soonOf_47 : decode cX5_soonOf 47 = .ok (.iaload, 1) := by decide +kernel
theorem dX5_soonOf_48 : decode cX5_soonOf 48 = .ok (.iconst (-1), 1) := by decide +kernel
theorem dX5_soonOf_49 : decode cX5_soonOf 49 = .ok (.if_icmp .eq 12, 3) := by decide +kernel
theorem dX5_soonOf_52 : decode cX5_soonOf 52 = .ok (.aload_n 0, 1) := by decide +kernel
theorem dX5_soonOf_53 : decode cX5_soonOf 53 = .ok (.getfield 60, 3) := by decide +kernel
theorem dX5_soonOf_56 : decode cX5_soonOf 56 = .ok (.iconst 1, 1) := by decide +kernel
theorem dX5_soonOf_57 : decode cX5_soonOf 57 = .ok (.isub, 1) := by decide +kernel
theorem dX5_soonOf_58 : decode cX5_soonOf 58 = .ok (.iload_n 1, 1) := by decide +kernel
theorem dX5_soonOf_59 : decode cX5_soonOf 59 = .ok (.isub, 1) := by decide +kernel
theorem dX5_soonOf_60 : decode cX5_soonOf 60 = .ok (.ireturn, 1) := by decide +kernel
theorem dX5_soonOf_61 : decode cX5_soonOf 61 = .ok (.iinc 1 (-1), 3) := by decide +kernel
theorem dX5_soonOf_64 : decode cX5_soonOf 64 = .ok (.goto (-38), 3) := by decide +kernel
theorem dX5_soonOf_67 : decode cX5_soonOf 67 = .ok (.iconst (-1), 1) := by decide +kernel
theorem dX5_soonOf_68 : decode cX5_soonOf 68 = .ok (.ireturn, 1) := by decide +kernel
end
section
set_option maxRecDepth 20000 in
theorem ggX5_soon_X5_lacks : GoodIn wsX5_soon wsX5_lacks := goodIn_r _ [5, 6, 16, 17, 18, 19, 20, 21, 22, 23, 24, 25, 26, 27, 28, 29, 30, 31, 32, 33, 34, 35] (by decide +kernel) (by decide +kernel)
set_option maxRecDepth 20000 in
theorem gX5_soon_X5_lacks : GoodIn wsX5_soon (wsV RX5 115 RX5 yX5_lacks wsX5_lacks) := goodIn_app (goodIn_of _ (by decide +kernel)) ggX5_soon_X5_lacks
set_option maxRecDepth 20000 in
theorem ggX5_soon_X5_soonOf : GoodIn wsX5_soon wsX5_soonOf := goodIn_r _ [10, 11, 6, 12, 13, 14, 4, 15, 16, 17, 18, 19, 20, 21, 22, 23, 24, 25, 26, 27, 28, 29, 30, 31, 32, 33, 34, 35] (by decide +kernel) (by decide +kernel)
set_option maxRecDepth 20000 in
theorem gX5_soon_X5_soonOf : GoodIn wsX5_soon (wsV RX5 128 RX5 yX5_soonOf wsX5_soonOf) := goodIn_app (goodIn_of _ (by decide +kernel)) ggX5_soon_X5_soonOf
theorem dX5_soon_0 : decode cX5_soon 0 = .ok (.aload_n 0, 1) := by decide +kernel
theorem dX5_soon_1 : decode cX5_soon 1 = .ok (.invokevirtual 115, 3) := by decide +kernel
theorem dX5_soon_4 : decode cX5_soon 4 = .ok (.ifCond .eq 8, 3) := by decide +kernel
theorem dX5_soon_7 : decode cX5_soon 7 = .ok (.bipush (-103), 2) := by decide +kernel
theorem dX5_soon_9 : decode cX5_soon 9 = .ok (.goto 7, 3) := by decide +kernel
theorem dX5_soon_12 : decode cX5_soon 12 = .ok (.aload_n 0, 1) := by decide +kernel
theorem dX5_soon_13 : decode cX5_soon 13 = .ok (.invokevirtual 128, 3) := by decide +kernel
theorem dX5_soon_16 : decode cX5_soon 16 = .ok (.ireturn, 1) := by decide +kernel
set_option maxRecDepth 20000 in
theorem ggX5_asTheyAre_X5_lacks : GoodIn wsX5_asTheyAre wsX5_lacks := goodIn_r _ [5, 6, 19, 20, 21, 22, 23, 24, 25, 26, 27, 28, 29, 30, 31, 32, 33, 34, 35, 36, 37, 38] (by decide +kernel) (by decide +kernel)
set_option maxRecDepth 20000 in
theorem gX5_asTheyAre_X5_lacks : GoodIn wsX5_asTheyAre (wsV RX5 115 RX5 yX5_lacks wsX5_lacks) := goodIn_app (goodIn_of _ (by decide +kernel)) ggX5_asTheyAre_X5_lacks
set_option maxRecDepth 20000 in
theorem ggX5_asTheyAre_X5_arrivesOf : GoodIn wsX5_asTheyAre wsX5_arrivesOf := goodIn_r _ [10, 6, 11, 12, 13, 4, 14, 15, 16, 17, 18, 19, 20, 21, 22, 23, 24, 25, 26, 27, 28, 29, 30, 31, 32, 33, 34, 35, 36, 37, 38] (by decide +kernel) (by decide +kernel)
set_option maxRecDepth 20000 in
theorem gX5_asTheyAre_X5_arrivesOf : GoodIn wsX5_asTheyAre (wsV RX5 122 RX5 yX5_arrivesOf wsX5_arrivesOf) := goodIn_app (goodIn_of _ (by decide +kernel)) ggX5_asTheyAre_X5_arrivesOf
theorem dX5_asTheyAre_0 : decode cX5_asTheyAre 0 = .ok (.iconst 0, 1) := by decide +kernel
theorem dX5_asTheyAre_1 : decode cX5_asTheyAre 1 = .ok (.istore_n 1, 1) := by decide +kernel
theorem dX5_asTheyAre_2 : decode cX5_asTheyAre 2 = .ok (.iconst 0, 1) := by decide +kernel
theorem dX5_asTheyAre_3 : decode cX5_asTheyAre 3 = .ok (.istore_n 2, 1) := by decide +kernel
theorem dX5_asTheyAre_4 : decode cX5_asTheyAre 4 = .ok (.iload_n 2, 1) := by decide +kernel
theorem dX5_asTheyAre_5 : decode cX5_asTheyAre 5 = .ok (.bipush 12, 2) := by decide +kernel
theorem dX5_asTheyAre_7 : decode cX5_asTheyAre 7 = .ok (.if_icmp .ge 34, 3) := by decide +kernel
theorem dX5_asTheyAre_10 : decode cX5_asTheyAre 10 = .ok (.aload_n 0, 1) := by decide +kernel
theorem dX5_asTheyAre_11 : decode cX5_asTheyAre 11 = .ok (.invokevirtual 115, 3) := by decide +kernel
theorem dX5_asTheyAre_14 : decode cX5_asTheyAre 14 = .ok (.ifCond .ne 27, 3) := by decide +kernel
theorem dX5_asTheyAre_17 : decode cX5_asTheyAre 17 = .ok (.iload_n 1, 1) := by decide +kernel
theorem dX5_asTheyAre_18 : decode cX5_asTheyAre 18 = .ok (.aload_n 0, 1) := by decide +kernel
theorem dX5_asTheyAre_19 : decode cX5_asTheyAre 19 = .ok (.iconst 0, 1) := by decide +kernel
theorem dX5_asTheyAre_20 : decode cX5_asTheyAre 20 = .ok (.iload_n 2, 1) := by decide +kernel
theorem dX5_asTheyAre_21 : decode cX5_asTheyAre 21 = .ok (.invokevirtual 122, 3) := by decide +kernel
theorem dX5_asTheyAre_24 : decode cX5_asTheyAre 24 = .ok (.iload_n 2, 1) := by decide +kernel
theorem dX5_asTheyAre_25 : decode cX5_asTheyAre 25 = .ok (.if_icmp .ne 7, 3) := by decide +kernel
theorem dX5_asTheyAre_28 : decode cX5_asTheyAre 28 = .ok (.iconst 1, 1) := by decide +kernel
theorem dX5_asTheyAre_29 : decode cX5_asTheyAre 29 = .ok (.goto 4, 3) := by decide +kernel
theorem dX5_asTheyAre_32 : decode cX5_asTheyAre 32 = .ok (.iconst 0, 1) := by decide +kernel
theorem dX5_asTheyAre_33 : decode cX5_asTheyAre 33 = .ok (.iadd, 1) := by decide +kernel
theorem dX5_asTheyAre_34 : decode cX5_asTheyAre 34 = .ok (.istore_n 1, 1) := by decide +kernel
theorem dX5_asTheyAre_35 : decode cX5_asTheyAre 35 = .ok (.iinc 2 1, 3) := by decide +kernel
theorem dX5_asTheyAre_38 : decode cX5_asTheyAre 38 = .ok (.goto (-34), 3) := by decide +kernel
theorem dX5_asTheyAre_41 : decode cX5_asTheyAre 41 = .ok (.iload_n 1, 1) := by decide +kernel
theorem dX5_asTheyAre_42 : decode cX5_asTheyAre 42 = .ok (.ireturn, 1) := by decide +kernel
set_option maxRecDepth 20000 in
theorem ggX5_cureOf_X5_asTheyAre : GoodIn wsX5_cureOf wsX5_asTheyAre := goodIn_r _ [7, 8, 9, 10, 6, 11, 1, 12, 13, 14, 15, 16, 17, 18, 19, 2, 20, 21, 22, 23, 24, 25, 26, 27, 28, 29, 30, 31, 32, 33, 34, 35, 36, 37, 38, 39, 40, 41, 42] (by decide +kernel) (by decide +kernel)
set_option maxRecDepth 20000 in
theorem gX5_cureOf_X5_asTheyAre : GoodIn wsX5_cureOf (wsV RX5 131 RX5 yX5_asTheyAre wsX5_asTheyAre) := goodIn_app (goodIn_of _ (by decide +kernel)) ggX5_cureOf_X5_asTheyAre
theorem dX5_cureOf_0 : decode cX5_cureOf 0 = .ok (.iconst (-1), 1) := by decide +kernel
theorem dX5_cureOf_1 : decode cX5_cureOf 1 = .ok (.istore_n 2, 1) := by decide +kernel
theorem dX5_cureOf_2 : decode cX5_cureOf 2 = .ok (.aload_n 0, 1) := by decide +kernel
theorem dX5_cureOf_3 : decode cX5_cureOf 3 = .ok (.invokevirtual 131, 3) := by decide +kernel
theorem dX5_cureOf_6 : decode cX5_cureOf 6 = .ok (.istore_n 3, 1) := by decide +kernel
theorem dX5_cureOf_7 : decode cX5_cureOf 7 = .ok (.iconst 0, 1) := by decide +kernel
theorem dX5_cureOf_8 : decode cX5_cureOf 8 = .ok (.istore 4, 2) := by decide +kernel
theorem dX5_cureOf_10 : decode cX5_cureOf 10 = .ok (.iload 4, 2) := by decide +kernel
theorem dX5_cureOf_12 : decode cX5_cureOf 12 = .ok (.aload_n 0, 1) := by decide +kernel
theorem dX5_cureOf_13 : decode cX5_cureOf 13 = .ok (.getfield 60, 3) := by decide +kernel
theorem dX5_cureOf_16 : decode cX5_cureOf 16 = .ok (.if_icmp .ge 79, 3) := by decide +kernel
theorem dX5_cureOf_19 : decode cX5_cureOf 19 = .ok (.aload_n 0, 1) := by decide +kernel
theorem dX5_cureOf_20 : decode cX5_cureOf 20 = .ok (.getfield 13, 3) := by decide +kernel
theorem dX5_cureOf_23 : decode cX5_cureOf 23 = .ok (.iconst 4, 1) := by decide +kernel
theorem dX5_cureOf_24 : decode cX5_cureOf 24 = .ok (.iload 4, 2) := by decide +kernel
theorem dX5_cureOf_26 : decode cX5_cureOf 26 = .ok (.imul, 1) := by decide +kernel
theorem dX5_cureOf_27 : decode cX5_cureOf 27 = .ok (.iconst 1, 1) := by decide +kernel
theorem dX5_cureOf_28 : decode cX5_cureOf 28 = .ok (.iadd, 1) := by decide +kernel
theorem dX5_cureOf_29 : decode cX5_cureOf 29 = .ok (.iaload, 1) := by decide +kernel
theorem dX5_cureOf_30 : decode cX5_cureOf 30 = .ok (.istore 5, 2) := by decide +kernel
theorem dX5_cureOf_32 : decode cX5_cureOf 32 = .ok (.aload_n 0, 1) := by decide +kernel
theorem dX5_cureOf_33 : decode cX5_cureOf 33 = .ok (.getfield 13, 3) := by decide +kernel
theorem dX5_cureOf_36 : decode cX5_cureOf 36 = .ok (.iconst 4, 1) := by decide +kernel
theorem dX5_cureOf_37 : decode cX5_cureOf 37 = .ok (.iload 4, 2) := by decide +kernel
theorem dX5_cureOf_39 : decode cX5_cureOf 39 = .ok (.imul, 1) := by decide +kernel
theorem dX5_cureOf_40 : decode cX5_cureOf 40 = .ok (.iconst 1, 1) := by decide +kernel
theorem dX5_cureOf_41 : decode cX5_cureOf 41 = .ok (.iadd, 1) := by decide +kernel
theorem dX5_cureOf_42 : decode cX5_cureOf 42 = .ok (.iconst 0, 1) := by decide +kernel
theorem dX5_cureOf_43 : decode cX5_cureOf 43 = .ok (.iastore, 1) := by decide +kernel
theorem dX5_cureOf_44 : decode cX5_cureOf 44 = .ok (.aload_n 0, 1) := by decide +kernel
theorem dX5_cureOf_45 : decode cX5_cureOf 45 = .ok (.invokevirtual 131, 3) := by decide +kernel
theorem dX5_cureOf_48 : decode cX5_cureOf 48 = .ok (.istore 6, 2) := by decide +kernel
theorem dX5_cureOf_50 : decode cX5_cureOf 50 = .ok (.aload_n 0, 1) := by decide +kernel
theorem dX5_cureOf_51 : decode cX5_cureOf 51 = .ok (.getfield 13, 3) := by decide +kernel
theorem dX5_cureOf_54 : decode cX5_cureOf 54 = .ok (.iconst 4, 1) := by decide +kernel
theorem dX5_cureOf_55 : decode cX5_cureOf 55 = .ok (.iload 4, 2) := by decide +kernel
theorem dX5_cureOf_57 : decode cX5_cureOf 57 = .ok (.imul, 1) := by decide +kernel
theorem dX5_cureOf_58 : decode cX5_cureOf 58 = .ok (.iconst 1, 1) := by decide +kernel
theorem dX5_cureOf_59 : decode cX5_cureOf 59 = .ok (.iadd, 1) := by decide +kernel
theorem dX5_cureOf_60 : decode cX5_cureOf 60 = .ok (.iload 5, 2) := by decide +kernel
theorem dX5_cureOf_62 : decode cX5_cureOf 62 = .ok (.iastore, 1) := by decide +kernel
theorem dX5_cureOf_63 : decode cX5_cureOf 63 = .ok (.iload 6, 2) := by decide +kernel
theorem dX5_cureOf_65 : decode cX5_cureOf 65 = .ok (.iload_n 3, 1) := by decide +kernel
theorem dX5_cureOf_66 : decode cX5_cureOf 66 = .ok (.if_icmp .le 8, 3) := by decide +kernel
theorem dX5_cureOf_69 : decode cX5_cureOf 69 = .ok (.iload 4, 2) := by decide +kernel
theorem dX5_cureOf_71 : decode cX5_cureOf 71 = .ok (.goto 4, 3) := by decide +kernel
theorem dX5_cureOf_74 : decode cX5_cureOf 74 = .ok (.iload_n 2, 1) := by decide +kernel
theorem dX5_cureOf_75 : decode cX5_cureOf 75 = .ok (.istore_n 2, 1) := by decide +kernel
theorem dX5_cureOf_76 : decode cX5_cureOf 76 = .ok (.iload 6, 2) := by decide +kernel
theorem dX5_cureOf_78 : decode cX5_cureOf 78 = .ok (.iload_n 3, 1) := by decide +kernel
theorem dX5_cureOf_79 : decode cX5_cureOf 79 = .ok (.if_icmp .le 8, 3) := by decide +kernel
theorem dX5_cureOf_82 : decode cX5_cureOf 82 = .ok (.iload 6, 2) := by decide +kernel
theorem dX5_cureOf_84 : decode cX5_cureOf 84 = .ok (.goto 4, 3) := by decide +kernel
theorem dX5_cureOf_87 : decode cX5_cureOf 87 = .ok (.iload_n 3, 1) := by decide +kernel
theorem dX5_cureOf_88 : decode cX5_cureOf 88 = .ok (.istore_n 3, 1) := by decide +kernel
theorem dX5_cureOf_89 : decode cX5_cureOf 89 = .ok (.iinc 4 1, 3) := by decide +kernel
theorem dX5_cureOf_92 : decode cX5_cureOf 92 = .ok (.goto (-82), 3) := by decide +kernel
theorem dX5_cureOf_95 : decode cX5_cureOf 95 = .ok (.iload_n 1, 1) := by decide +kernel
theorem dX5_cureOf_96 : decode cX5_cureOf 96 = .ok (.ifCond .ne 7, 3) := by decide +kernel
theorem dX5_cureOf_99 : decode cX5_cureOf 99 = .ok (.iload_n 2, 1) := by decide +kernel
theorem dX5_cureOf_100 : decode cX5_cureOf 100 = .ok (.goto 4, 3) := by decide +kernel
theorem dX5_cureOf_103 : decode cX5_cureOf 103 = .ok (.iload_n 3, 1) := by decide +kernel
theorem dX5_cureOf_104 : decode cX5_cureOf 104 = .ok (.ireturn, 1) := by decide +kernel
set_option maxRecDepth 20000 in
theorem ggX5_cure_X5_in : GoodIn wsX5_cure wsX5_in := goodIn_r _ [4] (by decide +kernel) (by decide +kernel)
set_option maxRecDepth 20000 in
theorem gX5_cure_X5_in : GoodIn wsX5_cure (va_wsS RX5 37 yX5_in wsX5_in) := goodIn_app (goodIn_of _ (by decide +kernel)) ggX5_cure_X5_in
set_option maxRecDepth 20000 in
theorem ggX5_cure_X5_lacks : GoodIn wsX5_cure wsX5_lacks := goodIn_r _ [8, 9, 30, 31, 32, 33, 34, 35, 36, 37, 38, 39, 40, 41, 42, 43, 44, 45, 46, 47, 48, 49] (by decide +kernel) (by decide +kernel)
set_option maxRecDepth 20000 in
theorem gX5_cure_X5_lacks : GoodIn wsX5_cure (wsV RX5 115 RX5 yX5_lacks wsX5_lacks) := goodIn_app (goodIn_of _ (by decide +kernel)) ggX5_cure_X5_lacks
set_option maxRecDepth 20000 in
theorem ggX5_cure_X5_cureOf : GoodIn wsX5_cure wsX5_cureOf := goodIn_r _ [13, 9, 14, 15, 16, 17, 3, 18, 5, 6, 7, 8, 19, 20, 21, 22, 23, 24, 25, 26, 27, 28, 29, 30, 31, 32, 33, 34, 35, 36, 37, 38, 39, 40, 41, 42, 43, 44, 45, 46, 47, 48, 49] (by decide +kernel) (by decide +kernel)
set_option maxRecDepth 20000 in
theorem gX5_cure_X5_cureOf : GoodIn wsX5_cure (wsV RX5 134 RX5 yX5_cureOf wsX5_cureOf) := goodIn_app (goodIn_of _ (by decide +kernel)) ggX5_cure_X5_cureOf
theorem dX5_cure_0 : decode cX5_cure 0 = .ok (.iload_n 1, 1) := by decide +kernel
theorem dX5_cure_1 : decode cX5_cure 1 = .ok (.i2l, 1) := by decide +kernel
theorem dX5_cure_2 : decode cX5_cure 2 = .ok (.lconst 0, 1) := by decide +kernel
theorem dX5_cure_3 : decode cX5_cure 3 = .ok (.lconst 1, 1) := by decide +kernel
theorem dX5_cure_4 : decode cX5_cure 4 = .ok (.invokestatic 37, 3) := by decide +kernel
theorem dX5_cure_7 : decode cX5_cure 7 = .ok (.ifCond .ne 6, 3) := by decide +kernel
theorem dX5_cure_10 : decode cX5_cure 10 = .ok (.bipush (-102), 2) := by decide +kernel
theorem dX5_cure_12 : decode cX5_cure 12 = .ok (.ireturn, 1) := by decide +kernel
theorem dX5_cure_13 : decode cX5_cure 13 = .ok (.aload_n 0, 1) := by decide +kernel
theorem dX5_cure_14 : decode cX5_cure 14 = .ok (.invokevirtual 115, 3) := by decide +kernel
theorem dX5_cure_17 : decode cX5_cure 17 = .ok (.ifCond .eq 8, 3) := by decide +kernel
theorem dX5_cure_20 : decode cX5_cure 20 = .ok (.bipush (-103), 2) := by decide +kernel
theorem dX5_cure_22 : decode cX5_cure 22 = .ok (.goto 8, 3) := by decide +kernel
theorem dX5_cure_25 : decode cX5_cure 25 = .ok (.aload_n 0, 1) := by decide +kernel
theorem dX5_cure_26 : decode cX5_cure 26 = .ok (.iload_n 1, 1) := by decide +kernel
theorem dX5_cure_27 : decode cX5_cure 27 = .ok (.invokevirtual 134, 3) := by decide +kernel
theorem dX5_cure_30 : decode cX5_cure 30 = .ok (.ireturn, 1) := by decide +kernel
set_option maxRecDepth 20000 in
theorem ggX5_hear_X5_isChild : GoodIn wsX5_hear wsX5_isChild := goodIn_r _ [7, 8, 9, 10, 6, 11, 16, 17, 18, 19, 20, 21, 22, 23, 24, 25, 26, 27, 28, 29, 30, 31, 32, 33, 34, 35] (by decide +kernel) (by decide +kernel)
set_option maxRecDepth 20000 in
theorem gX5_hear_X5_isChild : GoodIn wsX5_hear (wsV RX5 98 RX5 yX5_isChild wsX5_isChild) := goodIn_app (goodIn_of _ (by decide +kernel)) ggX5_hear_X5_isChild
set_option maxRecDepth 20000 in
theorem ggX5_hear_X5_isRule : GoodIn wsX5_hear wsX5_isRule := goodIn_r _ [14, 15, 9, 10, 6, 11] (by decide +kernel) (by decide +kernel)
set_option maxRecDepth 20000 in
theorem gX5_hear_X5_isRule : GoodIn wsX5_hear (va_wsS RX5 106 yX5_isRule wsX5_isRule) := goodIn_app (goodIn_of _ (by decide +kernel)) ggX5_hear_X5_isRule
theorem dX5_hear_0 : decode cX5_hear 0 = .ok (.aload_n 0, 1) := by decide +kernel
theorem dX5_hear_1 : decode cX5_hear 1 = .ok (.iload_n 1, 1) := by decide +kernel
theorem dX5_hear_2 : decode cX5_hear 2 = .ok (.invokevirtual 98, 3) := by decide +kernel
theorem dX5_hear_5 : decode cX5_hear 5 = .ok (.ifCond .ne 6, 3) := by decide +kernel
theorem dX5_hear_8 : decode cX5_hear 8 = .ok (.bipush (-101), 2) := by decide +kernel
theorem dX5_hear_10 : decode cX5_hear 10 = .ok (.ireturn, 1) := by decide +kernel
theorem dX5_hear_11 : decode cX5_hear 11 = .ok (.iload_n 2, 1) := by decide +kernel
theorem dX5_hear_12 : decode cX5_hear 12 = .ok (.invokestatic 106, 3) := by decide +kernel
theorem dX5_hear_15 : decode cX5_hear 15 = .ok (.ifCond .eq 10, 3) := by decide +kernel
theorem dX5_hear_18 : decode cX5_hear 18 = .ok (.iload_n 3, 1) := by decide +kernel
theorem dX5_hear_19 : decode cX5_hear 19 = .ok (.invokestatic 106, 3) := by decide +kernel
theorem dX5_hear_22 : decode cX5_hear 22 = .ok (.ifCond .ne 6, 3) := by decide +kernel
theorem dX5_hear_25 : decode cX5_hear 25 = .ok (.bipush (-102), 2) := by decide +kernel
theorem dX5_hear_27 : decode cX5_hear 27 = .ok (.ireturn, 1) := by decide +kernel
theorem dX5_hear_28 : decode cX5_hear 28 = .ok (.aload_n 0, 1) := by decide +kernel
theorem dX5_hear_29 : decode cX5_hear 29 = .ok (.getfield 69, 3) := by decide +kernel
theorem dX5_hear_32 : decode cX5_hear 32 = .ok (.bipush 8, 2) := by decide +kernel
theorem dX5_hear_34 : decode cX5_hear 34 = .ok (.if_icmp .ne 6, 3) := by decide +kernel
theorem dX5_hear_37 : decode cX5_hear 37 = .ok (.bipush (-104), 2) := by decide +kernel
theorem dX5_hear_39 : decode cX5_hear 39 = .ok (.ireturn, 1) := by decide +kernel
theorem dX5_hear_40 : decode cX5_hear 40 = .ok (.aload_n 0, 1) := by decide +kernel
theorem dX5_hear_41 : decode cX5_hear 41 = .ok (.getfield 16, 3) := by decide +kernel
theorem dX5_hear_44 : decode cX5_hear 44 = .ok (.iconst 3, 1) := by decide +kernel
theorem dX5_hear_45 : decode cX5_hear 45 = .ok (.aload_n 0, 1) := by decide +kernel
theorem dX5_hear_46 : decode cX5_hear 46 = .ok (.getfield 69, 3) := by decide +kernel
theorem dX5_hear_49 : decode cX5_hear 49 = .ok (.imul, 1) := by decide +kernel
theorem dX5_hear_50 : decode cX5_hear 50 = .ok (.iload_n 1, 1) := by decide +kernel
theorem dX5_hear_51 : decode cX5_hear 51 = .ok (.iastore, 1) := by decide +kernel
theorem dX5_hear_52 : decode cX5_hear 52 = .ok (.aload_n 0, 1) := by decide +kernel
theorem dX5_hear_53 : decode cX5_hear 53 = .ok (.getfield 16, 3) := by decide +kernel
theorem dX5_hear_56 : decode cX5_hear 56 = .ok (.iconst 3, 1) := by decide +kernel
theorem dX5_hear_57 : decode cX5_hear 57 = .ok (.aload_n 0, 1) := by decide +kernel
theorem dX5_hear_58 : decode cX5_hear 58 = .ok (.getfield 69, 3) := by decide +kernel
theorem dX5_hear_61 : decode cX5_hear 61 = .ok (.imul, 1) := by decide +kernel
theorem dX5_hear_62 : decode cX5_hear 62 = .ok (.iconst 1, 1) := by decide +kernel
theorem dX5_hear_63 : decode cX5_hear 63 = .ok (.iadd, 1) := by decide +kernel
theorem dX5_hear_64 : decode cX5_hear 64 = .ok (.iload_n 2, 1) := by decide +kernel
theorem dX5_hear_65 : decode cX5_hear 65 = .ok (.iastore, 1) := by decide +kernel
theorem dX5_hear_66 : decode cX5_hear 66 = .ok (.aload_n 0, 1) := by decide +kernel
theorem dX5_hear_67 : decode cX5_hear 67 = .ok (.getfield 16, 3) := by decide +kernel
theorem dX5_hear_70 : decode cX5_hear 70 = .ok (.iconst 3, 1) := by decide +kernel
theorem dX5_hear_71 : decode cX5_hear 71 = .ok (.aload_n 0, 1) := by decide +kernel
theorem dX5_hear_72 : decode cX5_hear 72 = .ok (.getfield 69, 3) := by decide +kernel
theorem dX5_hear_75 : decode cX5_hear 75 = .ok (.imul, 1) := by decide +kernel
theorem dX5_hear_76 : decode cX5_hear 76 = .ok (.iconst 2, 1) := by decide +kernel
theorem dX5_hear_77 : decode cX5_hear 77 = .ok (.iadd, 1) := by decide +kernel
theorem dX5_hear_78 : decode cX5_hear 78 = .ok (.iload_n 3, 1) := by decide +kernel
theorem dX5_hear_79 : decode cX5_hear 79 = .ok (.iastore, 1) := by decide +kernel
theorem dX5_hear_80 : decode cX5_hear 80 = .ok (.aload_n 0, 1) := by decide +kernel
theorem dX5_hear_81 : decode cX5_hear 81 = .ok (.dup, 1) := by decide +kernel
theorem dX5_hear_82 : decode cX5_hear 82 = .ok (.getfield 69, 3) := by decide +kernel
theorem dX5_hear_85 : decode cX5_hear 85 = .ok (.iconst 1, 1) := by decide +kernel
theorem dX5_hear_86 : decode cX5_hear 86 = .ok (.iadd, 1) := by decide +kernel
theorem dX5_hear_87 : decode cX5_hear 87 = .ok (.putfield 69, 3) := by decide +kernel
theorem dX5_hear_90 : decode cX5_hear 90 = .ok (.aload_n 0, 1) := by decide +kernel
theorem dX5_hear_91 : decode cX5_hear 91 = .ok (.getfield 69, 3) := by decide +kernel
theorem dX5_hear_94 : decode cX5_hear 94 = .ok (.ireturn, 1) := by decide +kernel
theorem dX5_forget_0 : decode cX5_forget 0 = .ok (.aload_n 0, 1) := by decide +kernel
theorem dX5_forget_1 : decode cX5_forget 1 = .ok (.getfield 69, 3) := by decide +kernel
theorem dX5_forget_4 : decode cX5_forget 4 = .ok (.istore_n 1, 1) := by decide +kernel
theorem dX5_forget_5 : decode cX5_forget 5 = .ok (.aload_n 0, 1) := by decide +kernel
theorem dX5_forget_6 : decode cX5_forget 6 = .ok (.iconst 0, 1) := by decide +kernel
theorem dX5_forget_7 : decode cX5_forget 7 = .ok (.putfield 69, 3) := by decide +kernel
theorem dX5_forget_10 : decode cX5_forget 10 = .ok (.iload_n 1, 1) := by decide +kernel
theorem dX5_forget_11 : decode cX5_forget 11 = .ok (.ireturn, 1) := by decide +kernel
set_option maxRecDepth 20000 in
theorem ggX5_slipsOf_X5_teachesBy : GoodIn wsX5_slipsOf wsX5_teachesBy := goodIn_r _ [7] (by decide +kernel) (by decide +kernel)
set_option maxRecDepth 20000 in
theorem gX5_slipsOf_X5_teachesBy : GoodIn wsX5_slipsOf (va_wsS RX5 77 yX5_teachesBy wsX5_teachesBy) := goodIn_app (goodIn_of _ (by decide +kernel)) ggX5_slipsOf_X5_teachesBy
theorem dX5_slipsOf_0 : decode cX5_slipsOf 0 = .ok (.iconst 0, 1) := by decide +kernel
theorem dX5_slipsOf_1 : decode cX5_slipsOf 1 = .ok (.istore_n 2, 1) := by decide +kernel
theorem dX5_slipsOf_2 : decode cX5_slipsOf 2 = .ok (.iconst 0, 1) := by decide +kernel
theorem dX5_slipsOf_3 : decode cX5_slipsOf 3 = .ok (.istore_n 3, 1) := by decide +kernel
theorem dX5_slipsOf_4 : decode cX5_slipsOf 4 = .ok (.iload_n 3, 1) := by decide +kernel
theorem dX5_slipsOf_5 : decode cX5_slipsOf 5 = .ok (.bipush 10, 2) := by decide +kernel
theorem dX5_slipsOf_7 : decode cX5_slipsOf 7 = .ok (.if_icmp .ge 119, 3) := by decide +kernel
theorem dX5_slipsOf_10 : decode cX5_slipsOf 10 = .ok (.iconst 1, 1) := by decide +kernel
theorem dX5_slipsOf_11 : decode cX5_slipsOf 11 = .ok (.istore 4, 2) := by decide +kernel
theorem dX5_slipsOf_13 : decode cX5_slipsOf 13 = .ok (.iconst 0, 1) := by decide +kernel
theorem dX5_slipsOf_14 : decode cX5_slipsOf 14 = .ok (.istore 5, 2) := by decide +kernel
theorem dX5_slipsOf_16 : decode cX5_slipsOf 16 = .ok (.iload 5, 2) := by decide +kernel
theorem dX5_slipsOf_18 : decode cX5_slipsOf 18 = .ok (.aload_n 0, 1) := by decide +kernel
theorem dX5_slipsOf_19 : decode cX5_slipsOf 19 = .ok (.getfield 69, 3) := by decide +kernel
theorem dX5_slipsOf_22 : decode cX5_slipsOf 22 = .ok (.if_icmp .ge 83, 3) := by decide +kernel
theorem dX5_slipsOf_25 : decode cX5_slipsOf 25 = .ok (.aload_n 0, 1) := by decide +kernel
theorem dX5_slipsOf_26 : decode cX5_slipsOf 26 = .ok (.getfield 13, 3) := by decide +kernel
theorem dX5_slipsOf_29 : decode cX5_slipsOf 29 = .ok (.iconst 4, 1) := by decide +kernel
theorem dX5_slipsOf_30 : decode cX5_slipsOf 30 = .ok (.iload_n 1, 1) := by decide +kernel
theorem dX5_slipsOf_31 : decode cX5_slipsOf 31 = .ok (.imul, 1) := by decide +kernel
theorem dX5_slipsOf_32 : decode cX5_slipsOf 32 = .ok (.iaload, 1) := by decide +kernel
theorem dX5_slipsOf_33 : decode cX5_slipsOf 33 = .ok (.iload_n 3, 1) := by decide +kernel
theorem dX5_slipsOf_34 : decode cX5_slipsOf 34 = .ok (.aload_n 0, 1) := by decide +kernel
theorem dX5_slipsOf_35 : decode cX5_slipsOf 35 = .ok (.getfield 16, 3) := by decide +kernel
theorem dX5_slipsOf_38 : decode cX5_slipsOf 38 = .ok (.iconst 3, 1) := by decide +kernel
theorem dX5_slipsOf_39 : decode cX5_slipsOf 39 = .ok (.iload 5, 2) := by decide +kernel
theorem dX5_slipsOf_41 : decode cX5_slipsOf 41 = .ok (.imul, 1) := by decide +kernel
theorem dX5_slipsOf_42 : decode cX5_slipsOf 42 = .ok (.iconst 1, 1) := by decide +kernel
theorem dX5_slipsOf_43 : decode cX5_slipsOf 43 = .ok (.iadd, 1) := by decide +kernel
theorem dX5_slipsOf_44 : decode cX5_slipsOf 44 = .ok (.iaload, 1) := by decide +kernel
theorem dX5_slipsOf_45 : decode cX5_slipsOf 45 = .ok (.invokestatic 77, 3) := by decide +kernel
theorem dX5_slipsOf_48 : decode cX5_slipsOf 48 = .ok (.aload_n 0, 1) := by decide +kernel
theorem dX5_slipsOf_49 : decode cX5_slipsOf 49 = .ok (.getfield 16, 3) := by decide +kernel
theorem dX5_slipsOf_52 : decode cX5_slipsOf 52 = .ok (.iconst 3, 1) := by decide +kernel
theorem dX5_slipsOf_53 : decode cX5_slipsOf 53 = .ok (.iload 5, 2) := by decide +kernel
theorem dX5_slipsOf_55 : decode cX5_slipsOf 55 = .ok (.imul, 1) := by decide +kernel
theorem dX5_slipsOf_56 : decode cX5_slipsOf 56 = .ok (.iconst 2, 1) := by decide +kernel
theorem dX5_slipsOf_57 : decode cX5_slipsOf 57 = .ok (.iadd, 1) := by decide +kernel
theorem dX5_slipsOf_58 : decode cX5_slipsOf 58 = .ok (.iaload, 1) := by decide +kernel
theorem dX5_slipsOf_59 : decode cX5_slipsOf 59 = .ok (.if_icmp .ne 7, 3) := by decide +kernel
theorem dX5_slipsOf_62 : decode cX5_slipsOf 62 = .ok (.iconst 1, 1) := by decide +kernel
theorem dX5_slipsOf_63 : decode cX5_slipsOf 63 = .ok (.goto 4, 3) := by decide +kernel
theorem dX5_slipsOf_66 : decode cX5_slipsOf 66 = .ok (.iconst 0, 1) := by decide +kernel
theorem dX5_slipsOf_67 : decode cX5_slipsOf 67 = .ok (.istore 6, 2) := by decide +kernel
theorem dX5_slipsOf_69 : decode cX5_slipsOf 69 = .ok (.iload 4, 2) := by decide +kernel
theorem dX5_slipsOf_71 : decode cX5_slipsOf 71 = .ok (.ifCond .eq 25, 3) := by decide +kernel
theorem dX5_slipsOf_74 : decode cX5_slipsOf 74 = .ok (.aload_n 0, 1) := by decide +kernel
theorem dX5_slipsOf_75 : decode cX5_slipsOf 75 = .ok (.getfield 16, 3) := by decide +kernel
theorem dX5_slipsOf_78 : decode cX5_slipsOf 78 = .ok (.iconst 3, 1) := by decide +kernel
theorem dX5_slipsOf_79 : decode cX5_slipsOf 79 = .ok (.iload 5, 2) := by decide +kernel
theorem dX5_slipsOf_81 : decode cX5_slipsOf 81 = .ok (.imul, 1) := by decide +kernel
theorem dX5_slipsOf_82 : decode cX5_slipsOf 82 = .ok (.iaload, 1) := by decide +kernel
theorem dX5_slipsOf_83 : decode cX5_slipsOf 83 = .ok (.iload_n 1, 1) := by decide +kernel
theorem dX5_slipsOf_84 : decode cX5_slipsOf 84 = .ok (.if_icmp .ne 8, 3) := by decide +kernel
theorem dX5_slipsOf_87 : decode cX5_slipsOf 87 = .ok (.iload 6, 2) := by decide +kernel
theorem dX5_slipsOf_89 : decode cX5_slipsOf 89 = .ok (.ifCond .eq 7, 3) := by decide +kernel
theorem dX5_slipsOf_92 : decode cX5_slipsOf 92 = .ok (.iconst 1, 1) := by decide +kernel
theorem dX5_slipsOf_93 : decode cX5_slipsOf 93 = .ok (.goto 4, 3) := by decide +kernel
theorem dX5_slipsOf_96 : decode cX5_slipsOf 96 = .ok (.iconst 0, 1) := by decide +kernel
theorem dX5_slipsOf_97 : decode cX5_slipsOf 97 = .ok (.istore 4, 2) := by decide +kernel
theorem dX5_slipsOf_99 : decode cX5_slipsOf 99 = .ok (.iinc 5 1, 3) := by decide +kernel
theorem dX5_slipsOf_102 : decode cX5_slipsOf 102 = .ok (.goto (-86), 3) := by decide +kernel
theorem dX5_slipsOf_105 : decode cX5_slipsOf 105 = .ok (.iload_n 2, 1) := by decide +kernel
theorem dX5_slipsOf_106 : decode cX5_slipsOf 106 = .ok (.iload 4, 2) := by decide +kernel
theorem dX5_slipsOf_108 : decode cX5_slipsOf 108 = .ok (.ifCond .eq 9, 3) := by decide +kernel
theorem dX5_slipsOf_111 : decode cX5_slipsOf 111 = .ok (.iconst 1, 1) := by decide +kernel
theorem dX5_slipsOf_112 : decode cX5_slipsOf 112 = .ok (.iload_n 3, 1) := by decide +kernel
theorem dX5_slipsOf_113 : decode cX5_slipsOf 113 = .ok (.ishl, 1) := by decide +kernel
theorem dX5_slipsOf_114 : decode cX5_slipsOf 114 = .ok (.goto 4, 3) := by decide +kernel
theorem dX5_slipsOf_117 : decode cX5_slipsOf 117 = .ok (.iconst 0, 1) := by decide +kernel
theorem dX5_slipsOf_118 : decode cX5_slipsOf 118 = .ok (.ior, 1) := by decide +kernel
theorem dX5_slipsOf_119 : decode cX5_slipsOf 119 = .ok (.istore_n 2, 1) := by decide +kernel
theorem dX5_slipsOf_120 : decode cX5_slipsOf 120 = .ok (.iinc 3 1, 3) := by decide +kernel
theorem dX5_slipsOf_123 : decode cX5_slipsOf 123 = .ok (.goto (-119), 3) := by decide +kernel
theorem dX5_slipsOf_126 : decode cX5_slipsOf 126 = .ok (.iload_n 2, 1) := by decide +kernel
theorem dX5_slipsOf_127 : decode cX5_slipsOf 127 = .ok (.ireturn, 1) := by decide +kernel
set_option maxRecDepth 20000 in
theorem ggX5_askOf_X5_slipsOf : GoodIn wsX5_askOf wsX5_slipsOf := goodIn_r _ [7, 8, 2, 9, 10, 11, 6, 12, 13, 14, 15, 16, 17, 18, 19, 20, 21, 22, 23, 24, 25, 26, 27, 28, 29, 30, 31, 32] (by decide +kernel) (by decide +kernel)
set_option maxRecDepth 20000 in
theorem gX5_askOf_X5_slipsOf : GoodIn wsX5_askOf (wsV RX5 92 RX5 yX5_slipsOf wsX5_slipsOf) := goodIn_app (goodIn_of _ (by decide +kernel)) ggX5_askOf_X5_slipsOf
set_option maxRecDepth 20000 in
theorem ggX5_askOf_X5_teachesBy : GoodIn wsX5_askOf wsX5_teachesBy := goodIn_r _ [12] (by decide +kernel) (by decide +kernel)
set_option maxRecDepth 20000 in
theorem gX5_askOf_X5_teachesBy : GoodIn wsX5_askOf (va_wsS RX5 77 yX5_teachesBy wsX5_teachesBy) := goodIn_app (goodIn_of _ (by decide +kernel)) ggX5_askOf_X5_teachesBy
theorem dX5_askOf_0 : decode cX5_askOf 0 = .ok (.aload_n 0, 1) := by decide +kernel
theorem dX5_askOf_1 : decode cX5_askOf 1 = .ok (.iload_n 1, 1) := by decide +kernel
theorem dX5_askOf_2 : decode cX5_askOf 2 = .ok (.invokevirtual 92, 3) := by decide +kernel
theorem dX5_askOf_5 : decode cX5_askOf 5 = .ok (.istore_n 2, 1) := by decide +kernel
theorem dX5_askOf_6 : decode cX5_askOf 6 = .ok (.iconst (-1), 1) := by decide +kernel
theorem dX5_askOf_7 : decode cX5_askOf 7 = .ok (.istore_n 3, 1) := by decide +kernel
theorem dX5_askOf_8 : decode cX5_askOf 8 = .ok (.bipush 11, 2) := by decide +kernel
theorem dX5_askOf_10 : decode cX5_askOf 10 = .ok (.istore 4, 2) := by decide +kernel
theorem dX5_askOf_12 : decode cX5_askOf 12 = .ok (.iconst 0, 1) := by decide +kernel
theorem dX5_askOf_13 : decode cX5_askOf 13 = .ok (.istore 5, 2) := by decide +kernel
theorem dX5_askOf_15 : decode cX5_askOf 15 = .ok (.iload 5, 2) := by decide +kernel
theorem dX5_askOf_17 : decode cX5_askOf 17 = .ok (.bipush 12, 2) := by decide +kernel
theorem dX5_askOf_19 : decode cX5_askOf 19 = .ok (.if_icmp .ge 145, 3) := by decide +kernel
theorem dX5_askOf_22 : decode cX5_askOf 22 = .ok (.iload_n 2, 1) := by decide +kernel
theorem dX5_askOf_23 : decode cX5_askOf 23 = .ok (.ifCond .eq 141, 3) := by decide +kernel
theorem dX5_askOf_26 : decode cX5_askOf 26 = .ok (.iconst 0, 1) := by decide +kernel
theorem dX5_askOf_27 : decode cX5_askOf 27 = .ok (.istore 6, 2) := by decide +kernel
theorem dX5_askOf_29 : decode cX5_askOf 29 = .ok (.iload 6, 2) := by decide +kernel
theorem dX5_askOf_31 : decode cX5_askOf 31 = .ok (.bipush 12, 2) := by decide +kernel
theorem dX5_askOf_33 : decode cX5_askOf 33 = .ok (.if_icmp .ge 17, 3) := by decide +kernel
theorem dX5_askOf_36 : decode cX5_askOf 36 = .ok (.aload_n 0, 1) := by decide +kernel
theorem dX5_askOf_37 : decode cX5_askOf 37 = .ok (.getfield 19, 3) := by decide +kernel
theorem dX5_askOf_40 : decode cX5_askOf 40 = .ok (.iload 6, 2) := by decide +kernel
theorem dX5_askOf_42 : decode cX5_askOf 42 = .ok (.iconst 0, 1) := by decide +kernel
theorem dX5_askOf_43 : decode cX5_askOf 43 = .ok (.iastore, 1) := by decide +kernel
theorem dX5_askOf_44 : decode cX5_askOf 44 = .ok (.iinc 6 1, 3) := by decide +kernel
theorem dX5_askOf_47 : decode cX5_askOf 47 = .ok (.goto (-18), 3) := by decide +kernel
theorem dX5_askOf_50 : decode cX5_askOf 50 = .ok (.iconst 0, 1) := by decide +kernel
theorem dX5_askOf_51 : decode cX5_askOf 51 = .ok (.istore 6, 2) := by decide +kernel
theorem dX5_askOf_53 : decode cX5_askOf 53 = .ok (.iconst 0, 1) := by decide +kernel
theorem dX5_askOf_54 : decode cX5_askOf 54 = .ok (.istore 7, 2) := by decide +kernel
theorem dX5_askOf_56 : decode cX5_askOf 56 = .ok (.iload 7, 2) := by decide +kernel
theorem dX5_askOf_58 : decode cX5_askOf 58 = .ok (.bipush 10, 2) := by decide +kernel
theorem dX5_askOf_60 : decode cX5_askOf 60 = .ok (.if_icmp .ge 68, 3) := by decide +kernel
theorem dX5_askOf_63 : decode cX5_askOf 63 = .ok (.aload_n 0, 1) := by decide +kernel
theorem dX5_askOf_64 : decode cX5_askOf 64 = .ok (.getfield 13, 3) := by decide +kernel
theorem dX5_askOf_67 : decode cX5_askOf 67 = .ok (.iconst 4, 1) := by decide +kernel
theorem dX5_askOf_68 : decode cX5_askOf 68 = .ok (.iload_n 1, 1) := by decide +kernel
theorem dX5_askOf_69 : decode cX5_askOf 69 = .ok (.imul, 1) := by decide +kernel
theorem dX5_askOf_70 : decode cX5_askOf 70 = .ok (.iaload, 1) := by decide +kernel
theorem dX5_askOf_71 : decode cX5_askOf 71 = .ok (.iload 7, 2) := by decide +kernel
theorem dX5_askOf_73 : decode cX5_askOf 73 = .ok (.iload 5, 2) := by decide +kernel
theorem dX5_askOf_75 : decode cX5_askOf 75 = .ok (.invokestatic 77, 3) := by decide +kernel
theorem dX5_askOf_78 : decode cX5_askOf 78 = .ok (.istore 8, 2) := by decide +kernel
theorem dX5_askOf_80 : decode cX5_askOf 80 = .ok (.aload_n 0, 1) := by decide +kernel
theorem dX5_askOf_81 : decode cX5_askOf 81 = .ok (.getfield 19, 3) := by decide +kernel
theorem dX5_askOf_84 : decode cX5_askOf 84 = .ok (.iload 8, 2) := by decide +kernel
theorem dX5_askOf_86 : decode cX5_askOf 86 = .ok (.dup2, 1) := by decide +kernel
theorem dX5_askOf_87 : decode cX5_askOf 87 = .ok (.iaload, 1) := by decide +kernel
theorem dX5_askOf_88 : decode cX5_askOf 88 = .ok (.iload_n 2, 1) := by decide +kernel
theorem dX5_askOf_89 : decode cX5_askOf 89 = .ok (.iload 7, 2) := by decide +kernel
theorem dX5_askOf_91 : decode cX5_askOf 91 = .ok (.ishr, 1) := by decide +kernel
theorem dX5_askOf_92 : decode cX5_askOf 92 = .ok (.iconst 1, 1) := by decide +kernel
theorem dX5_askOf_93 : decode cX5_askOf 93 = .ok (.iand, 1) := by decide +kernel
theorem dX5_askOf_94 : decode cX5_askOf 94 = .ok (.iadd, 1) := by decide +kernel
theorem dX5_askOf_95 : decode cX5_askOf 95 = .ok (.iastore, 1) := by decide +kernel
theorem dX5_askOf_96 : decode cX5_askOf 96 = .ok (.aload_n 0, 1) := by decide +kernel
theorem dX5_askOf_97 : decode cX5_askOf 97 = .ok (.getfield 19, 3) := by decide +kernel
theorem dX5_askOf_100 : decode cX5_askOf 100 = .ok (.iload 8, 2) := by decide +kernel
theorem dX5_askOf_102 : decode cX5_askOf 102 = .ok (.iaload, 1) := by decide +kernel
theorem dX5_askOf_103 : decode cX5_askOf 103 = .ok (.iload 6, 2) := by decide +kernel
theorem dX5_askOf_105 : decode cX5_askOf 105 = .ok (.if_icmp .le 13, 3) := by decide +kernel
theorem dX5_askOf_108 : decode cX5_askOf 108 = .ok (.aload_n 0, 1) := by decide +kernel
theorem dX5_askOf_109 : decode cX5_askOf 109 = .ok (.getfield 19, 3) := by decide +kernel
theorem dX5_askOf_112 : decode cX5_askOf 112 = .ok (.iload 8, 2) := by decide +kernel
theorem dX5_askOf_114 : decode cX5_askOf 114 = .ok (.iaload, 1) := by decide +kernel
theorem dX5_askOf_115 : decode cX5_askOf 115 = .ok (.goto 5, 3) := by decide +kernel
theorem dX5_askOf_118 : decode cX5_askOf 118 = .ok (.iload 6, 2) := by decide +kernel
theorem dX5_askOf_120 : decode cX5_askOf 120 = .ok (.istore 6, 2) := by decide +kernel
theorem dX5_askOf_122 : decode cX5_askOf 122 = .ok (.iinc 7 1, 3) := by decide +kernel
theorem dX5_askOf_125 : decode cX5_askOf 125 = .ok (.goto (-69), 3) := by decide +kernel
theorem dX5_askOf_128 : decode cX5_askOf 128 = .ok (.iload 6, 2) := by decide +kernel
theorem dX5_askOf_130 : decode cX5_askOf 130 = .ok (.iload 4, 2) := by decide +kernel
theorem dX5_askOf_132 : decode cX5_askOf 132 = .ok (.if_icmp .ge 8, 3) := by decide +kernel
theorem dX5_askOf_135 : decode cX5_askOf 135 = .ok (.iload 5, 2) := by decide +kernel
theorem dX5_askOf_137 : decode cX5_askOf 137 = .ok (.goto 4, 3) := by decide +kernel
theorem dX5_askOf_140 : decode cX5_askOf 140 = .ok (.iload_n 3, 1) := by decide +kernel
theorem dX5_askOf_141 : decode cX5_askOf 141 = .ok (.istore_n 3, 1) := by decide +kernel
theorem dX5_askOf_142 : decode cX5_askOf 142 = .ok (.iload 6, 2) := by decide +kernel
theorem dX5_askOf_144 : decode cX5_askOf 144 = .ok (.iload 4, 2) := by decide +kernel
theorem dX5_askOf_146 : decode cX5_askOf 146 = .ok (.if_icmp .ge 8, 3) := by decide +kernel
theorem dX5_askOf_149 : decode cX5_askOf 149 = .ok (.iload 6, 2) := by decide +kernel
theorem dX5_askOf_151 : decode cX5_askOf 151 = .ok (.goto 5, 3) := by decide +kernel
theorem dX5_askOf_154 : decode cX5_askOf 154 = .ok (.iload 4, 2) := by decide +kernel
theorem dX5_askOf_156 : decode cX5_askOf 156 = .ok (.istore 4, 2) := by decide +kernel
theorem dX5_askOf_158 : decode cX5_askOf 158 = .ok (.iinc 5 1, 3) := by decide +kernel
theorem dX5_askOf_161 : decode cX5_askOf 161 = .ok (.goto (-146), 3) := by decide +kernel
theorem dX5_askOf_164 : decode cX5_askOf 164 = .ok (.iload_n 3, 1) := by decide +kernel
theorem dX5_askOf_165 : decode cX5_askOf 165 = .ok (.ireturn, 1) := by decide +kernel
theorem dX5_draw_0 : decode cX5_draw 0 = .ok (.aload_n 0, 1) := by decide +kernel
theorem dX5_draw_1 : decode cX5_draw 1 = .ok (.ldc2_w 137, 3) := by decide +kernel
theorem dX5_draw_4 : decode cX5_draw 4 = .ok (.aload_n 0, 1) := by decide +kernel
theorem dX5_draw_5 : decode cX5_draw 5 = .ok (.getfield 139, 3) := by decide +kernel
theorem dX5_draw_8 : decode cX5_draw 8 = .ok (.i2l, 1) := by decide +kernel
theorem dX5_draw_9 : decode cX5_draw 9 = .ok (.lmul, 1) := by decide +kernel
theorem dX5_draw_10 : decode cX5_draw 10 = .ok (.ldc2_w 142, 3) := by decide +kernel
theorem dX5_draw_13 : decode cX5_draw 13 = .ok (.ladd, 1) := by decide +kernel
theorem dX5_draw_14 : decode cX5_draw 14 = .ok (.ldc2_w 144, 3) := by decide +kernel
theorem dX5_draw_17 : decode cX5_draw 17 = .ok (.land, 1) := by decide +kernel
theorem dX5_draw_18 : decode cX5_draw 18 = .ok (.l2i, 1) := by decide +kernel
theorem dX5_draw_19 : decode cX5_draw 19 = .ok (.putfield 139, 3) := by decide +kernel
theorem dX5_draw_22 : decode cX5_draw 22 = .ok (.aload_n 0, 1) := by decide +kernel
theorem dX5_draw_23 : decode cX5_draw 23 = .ok (.getfield 139, 3) := by decide +kernel
theorem dX5_draw_26 : decode cX5_draw 26 = .ok (.ldc 146, 2) := by decide +kernel
theorem dX5_draw_28 : decode cX5_draw 28 = .ok (.idiv, 1) := by decide +kernel
theorem dX5_draw_29 : decode cX5_draw 29 = .ok (.iload_n 1, 1) := by decide +kernel
theorem dX5_draw_30 : decode cX5_draw 30 = .ok (.irem, 1) := by decide +kernel
theorem dX5_draw_31 : decode cX5_draw 31 = .ok (.ireturn, 1) := by decide +kernel
set_option maxRecDepth 20000 in
theorem ggX5_terms_X5_in : GoodIn wsX5_terms wsX5_in := goodIn_r _ [11] (by decide +kernel) (by decide +kernel)
set_option maxRecDepth 20000 in
theorem gX5_terms_X5_in : GoodIn wsX5_terms (va_wsS RX5 37 yX5_in wsX5_in) := goodIn_app (goodIn_of _ (by decide +kernel)) ggX5_terms_X5_in
set_option maxRecDepth 20000 in
theorem ggX5_terms_X5_lacks : GoodIn wsX5_terms wsX5_lacks := goodIn_r _ [15, 6, 46, 47, 48, 49, 50, 51, 52, 53, 54, 55, 56, 57, 58, 59, 60, 61, 62, 63, 64, 65] (by decide +kernel) (by decide +kernel)
set_option maxRecDepth 20000 in
theorem gX5_terms_X5_lacks : GoodIn wsX5_terms (wsV RX5 115 RX5 yX5_lacks wsX5_lacks) := goodIn_app (goodIn_of _ (by decide +kernel)) ggX5_terms_X5_lacks
set_option maxRecDepth 20000 in
theorem ggX5_terms_X5_copy : GoodIn wsX5_terms wsX5_copy := goodIn_r _ [18] (by decide +kernel) (by decide +kernel)
set_option maxRecDepth 20000 in
theorem gX5_terms_X5_copy : GoodIn wsX5_terms (va_wsS RX5 151 yX5_copy wsX5_copy) := goodIn_app (goodIn_of _ (by decide +kernel)) ggX5_terms_X5_copy
set_option maxRecDepth 20000 in
theorem ggX5_terms_X5_draw : GoodIn wsX5_terms wsX5_draw := goodIn_r _ [22, 23, 5, 24, 25, 26, 46, 47, 48, 49, 50, 51, 52, 53, 54, 55, 56, 57, 58, 59, 60, 61, 62, 63, 64, 65] (by decide +kernel) (by decide +kernel)
set_option maxRecDepth 20000 in
theorem gX5_terms_X5_draw : GoodIn wsX5_terms (wsV RX5 155 RX5 yX5_draw wsX5_draw) := goodIn_app (goodIn_of _ (by decide +kernel)) ggX5_terms_X5_draw
set_option maxRecDepth 20000 in
theorem ggX5_terms_X5_goesUp : GoodIn wsX5_terms wsX5_goesUp := goodIn_r _ [30, 7, 6, 3, 31, 32, 33, 10, 34, 35, 36, 37, 38, 39, 40, 41, 42, 43, 44, 45, 46, 47, 48, 49, 50, 51, 52, 53, 54, 55, 56, 57, 58, 59, 60, 61, 62, 63, 64, 65] (by decide +kernel) (by decide +kernel)
set_option maxRecDepth 20000 in
theorem gX5_terms_X5_goesUp : GoodIn wsX5_terms (wsV RX5 119 RX5 yX5_goesUp wsX5_goesUp) := goodIn_app (goodIn_of _ (by decide +kernel)) ggX5_terms_X5_goesUp
theorem dX5_terms_0 : decode cX5_terms 0 = .ok (.iload_n 1, 1) := by decide +kernel
theorem dX5_terms_1 : decode cX5_terms 1 = .ok (.i2l, 1) := by decide +kernel
theorem dX5_terms_2 : decode cX5_terms 2 = .ok (.lconst 1, 1) := by decide +kernel
theorem dX5_terms_3 : decode cX5_terms 3 = .ok (.ldc2_w 147, 3) := by decide +kernel
theorem dX5_terms_6 : decode cX5_terms 6 = .ok (.invokestatic 37, 3) := by decide +kernel
theorem dX5_terms_9 : decode cX5_terms 9 = .ok (.ifCond .eq 19, 3) := by decide +kernel
theorem dX5_terms_12 : decode cX5_terms 12 = .ok (.iload_n 2, 1) := by decide +kernel
theorem dX5_terms_13 : decode cX5_terms 13 = .ok (.ifCond .lt 15, 3) := by decide +kernel
theorem dX5_terms_16 : decode cX5_terms 16 = .ok (.iload_n 3, 1) := by decide +kernel
theorem dX5_terms_17 : decode cX5_terms 17 = .ok (.i2l, 1) := by decide +kernel
theorem dX5_terms_18 : decode cX5_terms 18 = .ok (.lconst 0, 1) := by decide +kernel
theorem dX5_terms_19 : decode cX5_terms 19 = .ok (.ldc2_w 149, 3) := by decide +kernel
theorem dX5_terms_22 : decode cX5_terms 22 = .ok (.invokestatic 37, 3) := by decide +kernel
theorem dX5_terms_25 : decode cX5_terms 25 = .ok (.ifCond .ne 6, 3) := by decide +kernel
theorem dX5_terms_28 : decode cX5_terms 28 = .ok (.bipush (-102), 2) := by decide +kernel
theorem dX5_terms_30 : decode cX5_terms 30 = .ok (.ireturn, 1) := by decide +kernel
theorem dX5_terms_31 : decode cX5_terms 31 = .ok (.aload_n 0, 1) := by decide +kernel
theorem dX5_terms_32 : decode cX5_terms 32 = .ok (.invokevirtual 115, 3) := by decide +kernel
theorem dX5_terms_35 : decode cX5_terms 35 = .ok (.ifCond .eq 6, 3) := by decide +kernel
theorem dX5_terms_38 : decode cX5_terms 38 = .ok (.bipush (-103), 2) := by decide +kernel
theorem dX5_terms_40 : decode cX5_terms 40 = .ok (.ireturn, 1) := by decide +kernel
theorem dX5_terms_41 : decode cX5_terms 41 = .ok (.aload_n 0, 1) := by decide +kernel
theorem dX5_terms_42 : decode cX5_terms 42 = .ok (.getfield 13, 3) := by decide +kernel
theorem dX5_terms_45 : decode cX5_terms 45 = .ok (.aload_n 0, 1) := by decide +kernel
theorem dX5_terms_46 : decode cX5_terms 46 = .ok (.getfield 22, 3) := by decide +kernel
theorem dX5_terms_49 : decode cX5_terms 49 = .ok (.invokestatic 151, 3) := by decide +kernel
theorem dX5_terms_52 : decode cX5_terms 52 = .ok (.aload_n 0, 1) := by decide +kernel
theorem dX5_terms_53 : decode cX5_terms 53 = .ok (.iload_n 2, 1) := by decide +kernel
theorem dX5_terms_54 : decode cX5_terms 54 = .ok (.putfield 139, 3) := by decide +kernel
theorem dX5_terms_57 : decode cX5_terms 57 = .ok (.iconst 0, 1) := by decide +kernel
theorem dX5_terms_58 : decode cX5_terms 58 = .ok (.istore 4, 2) := by decide +kernel
theorem dX5_terms_60 : decode cX5_terms 60 = .ok (.iconst 0, 1) := by decide +kernel
theorem dX5_terms_61 : decode cX5_terms 61 = .ok (.istore 5, 2) := by decide +kernel
theorem dX5_terms_63 : decode cX5_terms 63 = .ok (.iload 5, 2) := by decide +kernel
theorem dX5_terms_65 : decode cX5_terms 65 = .ok (.iload_n 1, 1) := by decide +kernel
theorem dX5_terms_66 : decode cX5_terms 66 = .ok (.if_icmp .ge 97, 3) := by decide +kernel
theorem dX5_terms_69 : decode cX5_terms 69 = .ok (.aload_n 0, 1) := by decide +kernel
theorem dX5_terms_70 : decode cX5_terms 70 = .ok (.getfield 13, 3) := by decide +kernel
theorem dX5_terms_73 : decode cX5_terms 73 = .ok (.iconst 2, 1) := by decide +kernel
theorem dX5_terms_74 : decode cX5_terms 74 = .ok (.aload_n 0, 1) := by decide +kernel
theorem dX5_terms_75 : decode cX5_terms 75 = .ok (.bipush 12, 2) := by decide +kernel
theorem dX5_terms_77 : decode cX5_terms 77 = .ok (.invokevirtual 155, 3) := by decide +kernel
theorem dX5_terms_80 : decode cX5_terms 80 = .ok (.iastore, 1) := by decide +kernel
theorem dX5_terms_81 : decode cX5_terms 81 = .ok (.aload_n 0, 1) := by decide +kernel
theorem dX5_terms_82 : decode cX5_terms 82 = .ok (.aload_n 0, 1) := by decide +kernel
theorem dX5_terms_83 : decode cX5_terms 83 = .ok (.getfield 60, 3) := by decide +kernel
theorem dX5_terms_86 : decode cX5_terms 86 = .ok (.iconst 1, 1) := by decide +kernel
theorem dX5_terms_87 : decode cX5_terms 87 = .ok (.iadd, 1) := by decide +kernel
theorem dX5_terms_88 : decode cX5_terms 88 = .ok (.invokevirtual 155, 3) := by decide +kernel
theorem dX5_terms_91 : decode cX5_terms 91 = .ok (.istore 6, 2) := by decide +kernel
theorem dX5_terms_93 : decode cX5_terms 93 = .ok (.iconst 0, 1) := by decide +kernel
theorem dX5_terms_94 : decode cX5_terms 94 = .ok (.istore 7, 2) := by decide +kernel
theorem dX5_terms_96 : decode cX5_terms 96 = .ok (.iload 7, 2) := by decide +kernel
theorem dX5_terms_98 : decode cX5_terms 98 = .ok (.aload_n 0, 1) := by decide +kernel
theorem dX5_terms_99 : decode cX5_terms 99 = .ok (.getfield 60, 3) := by decide +kernel
theorem dX5_terms_102 : decode cX5_terms 102 = .ok (.if_icmp .ge 32, 3) := by decide +kernel
theorem dX5_terms_105 : decode cX5_terms 105 = .ok (.aload_n 0, 1) := by decide +kernel
theorem dX5_terms_106 : decode cX5_terms 106 = .ok (.getfield 13, 3) := by decide +kernel
theorem dX5_terms_109 : decode cX5_terms 109 = .ok (.iconst 4, 1) := by decide +kernel
theorem dX5_terms_110 : decode cX5_terms 110 = .ok (.iload 7, 2) := by decide +kernel
theorem dX5_terms_112 : decode cX5_terms 112 = .ok (.imul, 1) := by decide +kernel
theorem dX5_terms_113 : decode cX5_terms 113 = .ok (.iconst 3, 1) := by decide +kernel
theorem dX5_terms_114 : decode cX5_terms 114 = .ok (.iadd, 1) := by decide +kernel
theorem dX5_terms_115 : decode cX5_terms 115 = .ok (.iload 7, 2) := by decide +kernel
theorem dX5_terms_117 : decode cX5_terms 117 = .ok (.iload 6, 2) := by decide +kernel
theorem dX5_terms_119 : decode cX5_terms 119 = .ok (.if_icmp .ne 7, 3) := by decide +kernel
theorem dX5_terms_122 : decode cX5_terms 122 = .ok (.iconst 1, 1) := by decide +kernel
theorem dX5_terms_123 : decode cX5_terms 123 = .ok (.goto 4, 3) := by decide +kernel
theorem dX5_terms_126 : decode cX5_terms 126 = .ok (.iconst 0, 1) := by decide +kernel
theorem dX5_terms_127 : decode cX5_terms 127 = .ok (.iastore, 1) := by decide +kernel
theorem dX5_terms_128 : decode cX5_terms 128 = .ok (.iinc 7 1, 3) := by decide +kernel
theorem dX5_terms_131 : decode cX5_terms 131 = .ok (.goto (-35), 3) := by decide +kernel
theorem dX5_terms_134 : decode cX5_terms 134 = .ok (.aload_n 0, 1) := by decide +kernel
theorem dX5_terms_135 : decode cX5_terms 135 = .ok (.invokevirtual 119, 3) := by decide +kernel
theorem dX5_terms_138 : decode cX5_terms 138 = .ok (.istore 7, 2) := by decide +kernel
theorem dX5_terms_140 : decode cX5_terms 140 = .ok (.iload 4, 2) := by decide +kernel
theorem dX5_terms_142 : decode cX5_terms 142 = .ok (.aload_n 0, 1) := by decide +kernel
theorem dX5_terms_143 : decode cX5_terms 143 = .ok (.getfield 111, 3) := by decide +kernel
theorem dX5_terms_146 : decode cX5_terms 146 = .ok (.ifCond .eq 7, 3) := by decide +kernel
theorem dX5_terms_149 : decode cX5_terms 149 = .ok (.iconst 1, 1) := by decide +kernel
theorem dX5_terms_150 : decode cX5_terms 150 = .ok (.goto 4, 3) := by decide +kernel
theorem dX5_terms_153 : decode cX5_terms 153 = .ok (.iconst 0, 1) := by decide +kernel
theorem dX5_terms_154 : decode cX5_terms 154 = .ok (.iadd, 1) := by decide +kernel
theorem dX5_terms_155 : decode cX5_terms 155 = .ok (.istore 4, 2) := by decide +kernel
theorem dX5_terms_157 : decode cX5_terms 157 = .ok (.iinc 5 1, 3) := by decide +kernel
theorem dX5_terms_160 : decode cX5_terms 160 = .ok (.goto (-97), 3) := by decide +kernel
theorem dX5_terms_163 : decode cX5_terms 163 = .ok (.aload_n 0, 1) := by decide +kernel
theorem dX5_terms_164 : decode cX5_terms 164 = .ok (.getfield 13, 3) := by decide +kernel
theorem dX5_terms_167 : decode cX5_terms 167 = .ok (.iconst 4, 1) := by decide +kernel
theorem dX5_terms_168 : decode cX5_terms 168 = .ok (.aload_n 0, 1) := by decide +kernel
theorem dX5_terms_169 : decode cX5_terms 169 = .ok (.getfield 60, 3) := by decide +kernel
theorem dX5_terms_172 : decode cX5_terms 172 = .ok (.imul, 1) := by decide +kernel
theorem dX5_terms_173 : decode cX5_terms 173 = .ok (.iconst 2, 1) := by decide +kernel
theorem dX5_terms_174 : decode cX5_terms 174 = .ok (.isub, 1) := by decide +kernel
theorem dX5_terms_175 : decode cX5_terms 175 = .ok (.iaload, 1) := by decide +kernel
theorem dX5_terms_176 : decode cX5_terms 176 = .ok (.istore 5, 2) := by decide +kernel
theorem dX5_terms_178 : decode cX5_terms 178 = .ok (.aload_n 0, 1) := by decide +kernel
theorem dX5_terms_179 : decode cX5_terms 179 = .ok (.getfield 22, 3) := by decide +kernel
theorem dX5_terms_182 : decode cX5_terms 182 = .ok (.aload_n 0, 1) := by decide +kernel
theorem dX5_terms_183 : decode cX5_terms 183 = .ok (.getfield 13, 3) := by decide +kernel
theorem dX5_terms_186 : decode cX5_terms 186 = .ok (.invokestatic 151, 3) := by decide +kernel
theorem dX5_terms_189 : decode cX5_terms 189 = .ok (.iload_n 3, 1) := by decide +kernel
theorem dX5_terms_190 : decode cX5_terms 190 = .ok (.ifCond .ne 8, 3) := by decide +kernel
theorem dX5_terms_193 : decode cX5_terms 193 = .ok (.iload 4, 2) := by decide +kernel
theorem dX5_terms_195 : decode cX5_terms 195 = .ok (.goto 19, 3) := by decide +kernel
theorem dX5_terms_198 : decode cX5_terms 198 = .ok (.iload_n 3, 1) := by decide +kernel
theorem dX5_terms_199 : decode cX5_terms 199 = .ok (.iconst 1, 1) := by decide +kernel
theorem dX5_terms_200 : decode cX5_terms 200 = .ok (.if_icmp .ne 10, 3) := by decide +kernel
theorem dX5_terms_203 : decode cX5_terms 203 = .ok (.iload 5, 2) := by decide +kernel
theorem dX5_terms_205 : decode cX5_terms 205 = .ok (.iconst 1, 1) := by decide +kernel
theorem dX5_terms_206 : decode cX5_terms 206 = .ok (.iadd, 1) := by decide +kernel
theorem dX5_terms_207 : decode cX5_terms 207 = .ok (.goto 7, 3) := by decide +kernel
theorem dX5_terms_210 : decode cX5_terms 210 = .ok (.aload_n 0, 1) := by decide +kernel
theorem dX5_terms_211 : decode cX5_terms 211 = .ok (.getfield 139, 3) := by decide +kernel
theorem dX5_terms_214 : decode cX5_terms 214 = .ok (.ireturn, 1) := by decide +kernel
set_option maxRecDepth 20000 in
theorem ggX5_image_X5_lacks : GoodIn wsX5_image wsX5_lacks := goodIn_r _ [17, 18, 22, 23, 24, 25, 26, 27, 28, 29, 30, 31, 32, 33, 34, 35, 36, 37, 38, 39, 40, 41] (by decide +kernel) (by decide +kernel)
set_option maxRecDepth 20000 in
theorem gX5_image_X5_lacks : GoodIn wsX5_image (wsV RX5 115 RX5 yX5_lacks wsX5_lacks) := goodIn_app (goodIn_of _ (by decide +kernel)) ggX5_image_X5_lacks
set_option maxRecDepth 20000 in
theorem ggX5_image_X5_copy : GoodIn wsX5_image wsX5_copy := goodIn_r _ [21] (by decide +kernel) (by decide +kernel)
set_option maxRecDepth 20000 in
theorem gX5_image_X5_copy : GoodIn wsX5_image (va_wsS RX5 151 yX5_copy wsX5_copy) := goodIn_app (goodIn_of _ (by decide +kernel)) ggX5_image_X5_copy
theorem dX5_image_0 : decode cX5_image 0 = .ok (.aload_n 0, 1) := by decide +kernel
theorem dX5_image_1 : decode cX5_image 1 = .ok (.invokevirtual 115, 3) := by decide +kernel
theorem dX5_image_4 : decode cX5_image 4 = .ok (.ifCond .eq 6, 3) := by decide +kernel
theorem dX5_image_7 : decode cX5_image 7 = .ok (.bipush (-103), 2) := by decide +kernel
theorem dX5_image_9 : decode cX5_image 9 = .ok (.ireturn, 1) := by decide +kernel
theorem dX5_image_10 : decode cX5_image 10 = .ok (.aload_n 0, 1) := by decide +kernel
theorem dX5_image_11 : decode cX5_image 11 = .ok (.getfield 13, 3) := by decide +kernel
theorem dX5_image_14 : decode cX5_image 14 = .ok (.aload_n 0, 1) := by decide +kernel
theorem dX5_image_15 : decode cX5_image 15 = .ok (.getfield 25, 3) := by decide +kernel
theorem dX5_image_18 : decode cX5_image 18 = .ok (.invokestatic 151, 3) := by decide +kernel
theorem dX5_image_21 : decode cX5_image 21 = .ok (.aload_n 0, 1) := by decide +kernel
theorem dX5_image_22 : decode cX5_image 22 = .ok (.getfield 16, 3) := by decide +kernel
theorem dX5_image_25 : decode cX5_image 25 = .ok (.aload_n 0, 1) := by decide +kernel
theorem dX5_image_26 : decode cX5_image 26 = .ok (.getfield 28, 3) := by decide +kernel
theorem dX5_image_29 : decode cX5_image 29 = .ok (.invokestatic 151, 3) := by decide +kernel
theorem dX5_image_32 : decode cX5_image 32 = .ok (.aload_n 0, 1) := by decide +kernel
theorem dX5_image_33 : decode cX5_image 33 = .ok (.aload_n 0, 1) := by decide +kernel
theorem dX5_image_34 : decode cX5_image 34 = .ok (.getfield 63, 3) := by decide +kernel
theorem dX5_image_37 : decode cX5_image 37 = .ok (.putfield 158, 3) := by decide +kernel
theorem dX5_image_40 : decode cX5_image 40 = .ok (.aload_n 0, 1) := by decide +kernel
theorem dX5_image_41 : decode cX5_image 41 = .ok (.aload_n 0, 1) := by decide +kernel
theorem dX5_image_42 : decode cX5_image 42 = .ok (.getfield 66, 3) := by decide +kernel
theorem dX5_image_45 : decode cX5_image 45 = .ok (.putfield 161, 3) := by decide +kernel
theorem dX5_image_48 : decode cX5_image 48 = .ok (.aload_n 0, 1) := by decide +kernel
theorem dX5_image_49 : decode cX5_image 49 = .ok (.aload_n 0, 1) := by decide +kernel
theorem dX5_image_50 : decode cX5_image 50 = .ok (.getfield 69, 3) := by decide +kernel
theorem dX5_image_53 : decode cX5_image 53 = .ok (.putfield 164, 3) := by decide +kernel
theorem dX5_image_56 : decode cX5_image 56 = .ok (.aload_n 0, 1) := by decide +kernel
theorem dX5_image_57 : decode cX5_image 57 = .ok (.aload_n 0, 1) := by decide +kernel
theorem dX5_image_58 : decode cX5_image 58 = .ok (.getfield 72, 3) := by decide +kernel
theorem dX5_image_61 : decode cX5_image 61 = .ok (.putfield 31, 3) := by decide +kernel
theorem dX5_image_64 : decode cX5_image 64 = .ok (.aload_n 0, 1) := by decide +kernel
theorem dX5_image_65 : decode cX5_image 65 = .ok (.getfield 63, 3) := by decide +kernel
theorem dX5_image_68 : decode cX5_image 68 = .ok (.ireturn, 1) := by decide +kernel
set_option maxRecDepth 20000 in
theorem ggX5_restore_X5_copy : GoodIn wsX5_restore wsX5_copy := goodIn_r _ [16] (by decide +kernel) (by decide +kernel)
set_option maxRecDepth 20000 in
theorem gX5_restore_X5_copy : GoodIn wsX5_restore (va_wsS RX5 151 yX5_copy wsX5_copy) := goodIn_app (goodIn_of _ (by decide +kernel)) ggX5_restore_X5_copy
theorem dX5_restore_0 : decode cX5_restore 0 = .ok (.aload_n 0, 1) := by decide +kernel
theorem dX5_restore_1 : decode cX5_restore 1 = .ok (.getfield 31, 3) := by decide +kernel
theorem dX5_restore_4 : decode cX5_restore 4 = .ok (.aload_n 0, 1) := by decide +kernel
theorem dX5_restore_5 : decode cX5_restore 5 = .ok (.getfield 72, 3) := by decide +kernel
theorem dX5_restore_8 : decode cX5_restore 8 = .ok (.if_icmp .eq 6, 3) := by decide +kernel
theorem dX5_restore_11 : decode cX5_restore 11 = .ok (.bipush (-103), 2) := by decide +kernel
theorem dX5_restore_13 : decode cX5_restore 13 = .ok (.ireturn, 1) := by decide +kernel
theorem dX5_restore_14 : decode cX5_restore 14 = .ok (.aload_n 0, 1) := by decide +kernel
theorem dX5_restore_15 : decode cX5_restore 15 = .ok (.getfield 25, 3) := by decide +kernel
theorem dX5_restore_18 : decode cX5_restore 18 = .ok (.aload_n 0, 1) := by decide +kernel
theorem dX5_restore_19 : decode cX5_restore 19 = .ok (.getfield 13, 3) := by decide +kernel
theorem dX5_restore_22 : decode cX5_restore 22 = .ok (.invokestatic 151, 3) := by decide +kernel
theorem dX5_restore_25 : decode cX5_restore 25 = .ok (.aload_n 0, 1) := by decide +kernel
theorem dX5_restore_26 : decode cX5_restore 26 = .ok (.getfield 28, 3) := by decide +kernel
theorem dX5_restore_29 : decode cX5_restore 29 = .ok (.aload_n 0, 1) := by decide +kernel
theorem dX5_restore_30 : decode cX5_restore 30 = .ok (.getfield 16, 3) := by decide +kernel
theorem dX5_restore_33 : decode cX5_restore 33 = .ok (.invokestatic 151, 3) := by decide +kernel
theorem dX5_restore_36 : decode cX5_restore 36 = .ok (.aload_n 0, 1) := by decide +kernel
theorem dX5_restore_37 : decode cX5_restore 37 = .ok (.aload_n 0, 1) := by decide +kernel
theorem dX5_restore_38 : decode cX5_restore 38 = .ok (.getfield 158, 3) := by decide +kernel
theorem dX5_restore_41 : decode cX5_restore 41 = .ok (.putfield 63, 3) := by decide +kernel
theorem dX5_restore_44 : decode cX5_restore 44 = .ok (.aload_n 0, 1) := by decide +kernel
theorem dX5_restore_45 : decode cX5_restore 45 = .ok (.aload_n 0, 1) := by decide +kernel
theorem dX5_restore_46 : decode cX5_restore 46 = .ok (.getfield 161, 3) := by decide +kernel
theorem dX5_restore_49 : decode cX5_restore 49 = .ok (.putfield 66, 3) := by decide +kernel
theorem dX5_restore_52 : decode cX5_restore 52 = .ok (.aload_n 0, 1) := by decide +kernel
theorem dX5_restore_53 : decode cX5_restore 53 = .ok (.aload_n 0, 1) := by decide +kernel
theorem dX5_restore_54 : decode cX5_restore 54 = .ok (.getfield 164, 3) := by decide +kernel
theorem dX5_restore_57 : decode cX5_restore 57 = .ok (.putfield 69, 3) := by decide +kernel
theorem dX5_restore_60 : decode cX5_restore 60 = .ok (.aload_n 0, 1) := by decide +kernel
theorem dX5_restore_61 : decode cX5_restore 61 = .ok (.getfield 63, 3) := by decide +kernel
theorem dX5_restore_64 : decode cX5_restore 64 = .ok (.ireturn, 1) := by decide +kernel
theorem dX5_knowing_0 : decode cX5_knowing 0 = .ok (.iconst 0, 1) := by decide +kernel
theorem dX5_knowing_1 : decode cX5_knowing 1 = .ok (.istore_n 1, 1) := by decide +kernel
theorem dX5_knowing_2 : decode cX5_knowing 2 = .ok (.iconst 0, 1) := by decide +kernel
theorem dX5_knowing_3 : decode cX5_knowing 3 = .ok (.istore_n 2, 1) := by decide +kernel
theorem dX5_knowing_4 : decode cX5_knowing 4 = .ok (.iload_n 2, 1) := by decide +kernel
theorem dX5_knowing_5 : decode cX5_knowing 5 = .ok (.aload_n 0, 1) := by decide +kernel
theorem dX5_knowing_6 : decode cX5_knowing 6 = .ok (.getfield 60, 3) := by decide +kernel
theorem dX5_knowing_9 : decode cX5_knowing 9 = .ok (.if_icmp .ge 31, 3) := by decide +kernel
theorem dX5_knowing_12 : decode cX5_knowing 12 = .ok (.iload_n 1, 1) := by decide +kernel
theorem dX5_knowing_13 : decode cX5_knowing 13 = .ok (.aload_n 0, 1) := by decide +kernel
theorem dX5_knowing_14 : decode cX5_knowing 14 = .ok (.getfield 13, 3) := by decide +kernel
theorem dX5_knowing_17 : decode cX5_knowing 17 = .ok (.iconst 4, 1) := by decide +kernel
theorem dX5_knowing_18 : decode cX5_knowing 18 = .ok (.iload_n 2, 1) := by decide +kernel
theorem dX5_knowing_19 : decode cX5_knowing 19 = .ok (.imul, 1) := by decide +kernel
theorem dX5_knowing_20 : decode cX5_knowing 20 = .ok (.iconst 2, 1) := by decide +kernel
theorem dX5_knowing_21 : decode cX5_knowing 21 = .ok (.iadd, 1) := by decide +kernel
theorem dX5_knowing_22 : decode cX5_knowing 22 = .ok (.iaload, 1) := by decide +kernel
theorem dX5_knowing_23 : decode cX5_knowing 23 = .ok (.iconst (-1), 1) := by decide +kernel
theorem dX5_knowing_24 : decode cX5_knowing 24 = .ok (.if_icmp .ne 7, 3) := by decide +kernel
theorem dX5_knowing_27 : decode cX5_knowing 27 = .ok (.iconst 0, 1) := by decide +kernel
theorem dX5_knowing_28 : decode cX5_knowing 28 = .ok (.goto 4, 3) := by decide +kernel
theorem dX5_knowing_31 : decode cX5_knowing 31 = .ok (.iconst 1, 1) := by decide +kernel
theorem dX5_knowing_32 : decode cX5_knowing 32 = .ok (.iadd, 1) := by decide +kernel
theorem dX5_knowing_33 : decode cX5_knowing 33 = .ok (.istore_n 1, 1) := by decide +kernel
theorem dX5_knowing_34 : decode cX5_knowing 34 = .ok (.iinc 2 1, 3) := by decide +kernel
theorem dX5_knowing_37 : decode cX5_knowing 37 = .ok (.goto (-33), 3) := by decide +kernel
theorem dX5_knowing_40 : decode cX5_knowing 40 = .ok (.iload_n 1, 1) := by decide +kernel
theorem dX5_knowing_41 : decode cX5_knowing 41 = .ok (.ireturn, 1) := by decide +kernel
theorem dX5_unlike_0 : decode cX5_unlike 0 = .ok (.iconst 0, 1) := by decide +kernel
theorem dX5_unlike_1 : decode cX5_unlike 1 = .ok (.istore_n 1, 1) := by decide +kernel
theorem dX5_unlike_2 : decode cX5_unlike 2 = .ok (.iconst 0, 1) := by decide +kernel
theorem dX5_unlike_3 : decode cX5_unlike 3 = .ok (.istore_n 2, 1) := by decide +kernel
theorem dX5_unlike_4 : decode cX5_unlike 4 = .ok (.iconst 0, 1) := by decide +kernel
theorem dX5_unlike_5 : decode cX5_unlike 5 = .ok (.istore_n 3, 1) := by decide +kernel
theorem dX5_unlike_6 : decode cX5_unlike 6 = .ok (.iload_n 3, 1) := by decide +kernel
theorem dX5_unlike_7 : decode cX5_unlike 7 = .ok (.aload_n 0, 1) := by decide +kernel
theorem dX5_unlike_8 : decode cX5_unlike 8 = .ok (.getfield 60, 3) := by decide +kernel
theorem dX5_unlike_11 : decode cX5_unlike 11 = .ok (.if_icmp .ge 59, 3) := by decide +kernel
theorem dX5_unlike_14 : decode cX5_unlike 14 = .ok (.aload_n 0, 1) := by decide +kernel
theorem dX5_unlike_15 : decode cX5_unlike 15 = .ok (.getfield 13, 3) := by decide +kernel
theorem dX5_unlike_18 : decode cX5_unlike 18 = .ok (.iconst 4, 1) := by decide +kernel
theorem dX5_unlike_19 : decode cX5_unlike 19 = .ok (.iload_n 3, 1) := by decide +kernel
theorem dX5_unlike_20 : decode cX5_unlike 20 = .ok (.imul, 1) := by decide +kernel
theorem dX5_unlike_21 : decode cX5_unlike 21 = .ok (.iconst 2, 1) := by decide +kernel
theorem dX5_unlike_22 : decode cX5_unlike 22 = .ok (.iadd, 1) := by decide +kernel
theorem dX5_unlike_23 : decode cX5_unlike 23 = .ok (.iaload, 1) := by decide +kernel
theorem dX5_unlike_24 : decode cX5_unlike 24 = .ok (.istore 4, 2) := by decide +kernel
theorem dX5_unlike_26 : decode cX5_unlike 26 = .ok (.iload_n 2, 1) := by decide +kernel
theorem dX5_unlike_27 : decode cX5_unlike 27 = .ok (.iload 4, 2) := by decide +kernel
theorem dX5_unlike_29 : decode cX5_unlike 29 = .ok (.iconst (-1), 1) := by decide +kernel
theorem dX5_unlike_30 : decode cX5_unlike 30 = .ok (.if_icmp .ne 7, 3) := by decide +kernel
theorem dX5_unlike_33 : decode cX5_unlike 33 = .ok (.iconst 0, 1) := by decide +kernel
theorem dX5_unlike_34 : decode cX5_unlike 34 = .ok (.goto 11, 3) := by decide +kernel
theorem dX5_unlike_37 : decode cX5_unlike 37 = .ok (.iconst 1, 1) := by decide +kernel
theorem dX5_unlike_38 : decode cX5_unlike 38 = .ok (.iload_n 1, 1) := by decide +kernel
theorem dX5_unlike_39 : decode cX5_unlike 39 = .ok (.iload 4, 2) := by decide +kernel
theorem dX5_unlike_41 : decode cX5_unlike 41 = .ok (.ishr, 1) := by decide +kernel
theorem dX5_unlike_42 : decode cX5_unlike 42 = .ok (.iconst 1, 1) := by decide +kernel
theorem dX5_unlike_43 : decode cX5_unlike 43 = .ok (.iand, 1) := by decide +kernel
theorem dX5_unlike_44 : decode cX5_unlike 44 = .ok (.isub, 1) := by decide +kernel
theorem dX5_unlike_45 : decode cX5_unlike 45 = .ok (.iadd, 1) := by decide +kernel
theorem dX5_unlike_46 : decode cX5_unlike 46 = .ok (.istore_n 2, 1) := by decide +kernel
theorem dX5_unlike_47 : decode cX5_unlike 47 = .ok (.iload_n 1, 1) := by decide +kernel
theorem dX5_unlike_48 : decode cX5_unlike 48 = .ok (.iload 4, 2) := by decide +kernel
theorem dX5_unlike_50 : decode cX5_unlike 50 = .ok (.iconst (-1), 1) := by decide +kernel
theorem dX5_unlike_51 : decode cX5_unlike 51 = .ok (.if_icmp .ne 7, 3) := by decide +kernel
theorem dX5_unlike_54 : decode cX5_unlike 54 = .ok (.iconst 0, 1) := by decide +kernel
theorem dX5_unlike_55 : decode cX5_unlike 55 = .ok (.goto 7, 3) := by decide +kernel
theorem dX5_unlike_58 : decode cX5_unlike 58 = .ok (.iconst 1, 1) := by decide +kernel
theorem dX5_unlike_59 : decode cX5_unlike 59 = .ok (.iload 4, 2) := by decide +kernel
theorem dX5_unlike_61 : decode cX5_unlike 61 = .ok (.ishl, 1) := by decide +kernel
theorem dX5_unlike_62 : decode cX5_unlike 62 = .ok (.ior, 1) := by decide +kernel
theorem dX5_unlike_63 : decode cX5_unlike 63 = .ok (.istore_n 1, 1) := by decide +kernel
theorem dX5_unlike_64 : decode cX5_unlike 64 = .ok (.iinc 3 1, 3) := by decide +kernel
theorem dX5_unlike_67 : decode cX5_unlike 67 = .ok (.goto (-61), 3) := by decide +kernel
theorem dX5_unlike_70 : decode cX5_unlike 70 = .ok (.iload_n 2, 1) := by decide +kernel
theorem dX5_unlike_71 : decode cX5_unlike 71 = .ok (.ireturn, 1) := by decide +kernel
theorem dX5_illMany_0 : decode cX5_illMany 0 = .ok (.iconst 0, 1) := by decide +kernel
theorem dX5_illMany_1 : decode cX5_illMany 1 = .ok (.istore_n 1, 1) := by decide +kernel
theorem dX5_illMany_2 : decode cX5_illMany 2 = .ok (.iconst 0, 1) := by decide +kernel
theorem dX5_illMany_3 : decode cX5_illMany 3 = .ok (.istore_n 2, 1) := by decide +kernel
theorem dX5_illMany_4 : decode cX5_illMany 4 = .ok (.iload_n 2, 1) := by decide +kernel
theorem dX5_illMany_5 : decode cX5_illMany 5 = .ok (.aload_n 0, 1) := by decide +kernel
theorem dX5_illMany_6 : decode cX5_illMany 6 = .ok (.getfield 60, 3) := by decide +kernel
theorem dX5_illMany_9 : decode cX5_illMany 9 = .ok (.if_icmp .ge 22, 3) := by decide +kernel
theorem dX5_illMany_12 : decode cX5_illMany 12 = .ok (.iload_n 1, 1) := by decide +kernel
theorem dX5_illMany_13 : decode cX5_illMany 13 = .ok (.aload_n 0, 1) := by decide +kernel
theorem dX5_illMany_14 : decode cX5_illMany 14 = .ok (.getfield 13, 3) := by decide +kernel
theorem dX5_illMany_17 : decode cX5_illMany 17 = .ok (.iconst 4, 1) := by decide +kernel
theorem dX5_illMany_18 : decode cX5_illMany 18 = .ok (.iload_n 2, 1) := by decide +kernel
theorem dX5_illMany_19 : decode cX5_illMany 19 = .ok (.imul, 1) := by decide +kernel
theorem dX5_illMany_20 : decode cX5_illMany 20 = .ok (.iconst 3, 1) := by decide +kernel
theorem dX5_illMany_21 : decode cX5_illMany 21 = .ok (.iadd, 1) := by decide +kernel
theorem dX5_illMany_22 : decode cX5_illMany 22 = .ok (.iaload, 1) := by decide +kernel
theorem dX5_illMany_23 : decode cX5_illMany 23 = .ok (.iadd, 1) := by decide +kernel
theorem dX5_illMany_24 : decode cX5_illMany 24 = .ok (.istore_n 1, 1) := by decide +kernel
theorem dX5_illMany_25 : decode cX5_illMany 25 = .ok (.iinc 2 1, 3) := by decide +kernel
theorem dX5_illMany_28 : decode cX5_illMany 28 = .ok (.goto (-24), 3) := by decide +kernel
theorem dX5_illMany_31 : decode cX5_illMany 31 = .ok (.iload_n 1, 1) := by decide +kernel
theorem dX5_illMany_32 : decode cX5_illMany 32 = .ok (.ireturn, 1) := by decide +kernel
set_option maxRecDepth 20000 in
theorem ggX5_countOf_X5_knowing : GoodIn wsX5_countOf wsX5_knowing := goodIn_r _ [11, 1, 12, 40, 41, 42, 43, 44, 45, 46, 47, 48, 49, 50, 51, 52, 53, 54, 55, 56, 57, 58, 59] (by decide +kernel) (by decide +kernel)
set_option maxRecDepth 20000 in
theorem gX5_countOf_X5_knowing : GoodIn wsX5_countOf (wsV RX5 167 RX5 yX5_knowing wsX5_knowing) := goodIn_app (goodIn_of _ (by decide +kernel)) ggX5_countOf_X5_knowing
set_option maxRecDepth 20000 in
theorem ggX5_countOf_X5_unlike : GoodIn wsX5_countOf wsX5_unlike := goodIn_r _ [16, 1, 12, 40, 41, 42, 43, 44, 45, 46, 47, 48, 49, 50, 51, 52, 53, 54, 55, 56, 57, 58, 59] (by decide +kernel) (by decide +kernel)
set_option maxRecDepth 20000 in
theorem gX5_countOf_X5_unlike : GoodIn wsX5_countOf (wsV RX5 170 RX5 yX5_unlike wsX5_unlike) := goodIn_app (goodIn_of _ (by decide +kernel)) ggX5_countOf_X5_unlike
set_option maxRecDepth 20000 in
theorem ggX5_countOf_X5_illMany : GoodIn wsX5_countOf wsX5_illMany := goodIn_r _ [20, 1, 12, 40, 41, 42, 43, 44, 45, 46, 47, 48, 49, 50, 51, 52, 53, 54, 55, 56, 57, 58, 59] (by decide +kernel) (by decide +kernel)
set_option maxRecDepth 20000 in
theorem gX5_countOf_X5_illMany : GoodIn wsX5_countOf (wsV RX5 173 RX5 yX5_illMany wsX5_illMany) := goodIn_app (goodIn_of _ (by decide +kernel)) ggX5_countOf_X5_illMany
set_option maxRecDepth 20000 in
theorem ggX5_countOf_X5_asTheyAre : GoodIn wsX5_countOf wsX5_asTheyAre := goodIn_r _ [24, 25, 26, 27, 10, 28, 1, 29, 30, 31, 32, 33, 34, 35, 36, 12, 37, 38, 39, 40, 41, 42, 43, 44, 45, 46, 47, 48, 49, 50, 51, 52, 53, 54, 55, 56, 57, 58, 59] (by decide +kernel) (by decide +kernel)
set_option maxRecDepth 20000 in
theorem gX5_countOf_X5_asTheyAre : GoodIn wsX5_countOf (wsV RX5 131 RX5 yX5_asTheyAre wsX5_asTheyAre) := goodIn_app (goodIn_of _ (by decide +kernel)) ggX5_countOf_X5_asTheyAre
theorem dX5_countOf_0 : decode cX5_countOf 0 = .ok (.iload_n 1, 1) := by decide +kernel
theorem dX5_countOf_1 : decode cX5_countOf 1 = .ok (.tableswitch 105 0 9 #[55, 60, 65, 70, 75, 80, 85, 90, 95, 100], 55) := by decide +kernel
theorem dX5_countOf_56 : decode cX5_countOf 56 = .ok (.aload_n 0, 1) := by decide +kernel
theorem dX5_countOf_57 : decode cX5_countOf 57 = .ok (.getfield 60, 3) := by decide +kernel
theorem dX5_countOf_60 : decode cX5_countOf 60 = .ok (.ireturn, 1) := by decide +kernel
theorem dX5_countOf_61 : decode cX5_countOf 61 = .ok (.aload_n 0, 1) := by decide +kernel
theorem dX5_countOf_62 : decode cX5_countOf 62 = .ok (.invokevirtual 167, 3) := by decide +kernel
theorem dX5_countOf_65 : decode cX5_countOf 65 = .ok (.ireturn, 1) := by decide +kernel
theorem dX5_countOf_66 : decode cX5_countOf 66 = .ok (.aload_n 0, 1) := by decide +kernel
theorem dX5_countOf_67 : decode cX5_countOf 67 = .ok (.invokevirtual 170, 3) := by decide +kernel
theorem dX5_countOf_70 : decode cX5_countOf 70 = .ok (.ireturn, 1) := by decide +kernel
theorem dX5_countOf_71 : decode cX5_countOf 71 = .ok (.aload_n 0, 1) := by decide +kernel
theorem dX5_countOf_72 : decode cX5_countOf 72 = .ok (.invokevirtual 173, 3) := by decide +kernel
theorem dX5_countOf_75 : decode cX5_countOf 75 = .ok (.ireturn, 1) := by decide +kernel
theorem dX5_countOf_76 : decode cX5_countOf 76 = .ok (.aload_n 0, 1) := by decide +kernel
theorem dX5_countOf_77 : decode cX5_countOf 77 = .ok (.getfield 63, 3) := by decide +kernel
theorem dX5_countOf_80 : decode cX5_countOf 80 = .ok (.ireturn, 1) := by decide +kernel
theorem dX5_countOf_81 : decode cX5_countOf 81 = .ok (.aload_n 0, 1) := by decide +kernel
theorem dX5_countOf_82 : decode cX5_countOf 82 = .ok (.getfield 66, 3) := by decide +kernel
theorem dX5_countOf_85 : decode cX5_countOf 85 = .ok (.ireturn, 1) := by decide +kernel
theorem dX5_countOf_86 : decode cX5_countOf 86 = .ok (.aload_n 0, 1) := by decide +kernel
theorem dX5_countOf_87 : decode cX5_countOf 87 = .ok (.invokevirtual 131, 3) := by decide +kernel
theorem dX5_countOf_90 : decode cX5_countOf 90 = .ok (.ireturn, 1) := by decide +kernel
theorem dX5_countOf_91 : decode cX5_countOf 91 = .ok (.aload_n 0, 1) := by decide +kernel
theorem dX5_countOf_92 : decode cX5_countOf 92 = .ok (.getfield 69, 3) := by decide +kernel
theorem dX5_countOf_95 : decode cX5_countOf 95 = .ok (.ireturn, 1) := by decide +kernel
theorem dX5_countOf_96 : decode cX5_countOf 96 = .ok (.aload_n 0, 1) := by decide +kernel
theorem dX5_countOf_97 : decode cX5_countOf 97 = .ok (.getfield 41, 3) := by decide +kernel
theorem dX5_countOf_100 : decode cX5_countOf 100 = .ok (.ireturn, 1) := by decide +kernel
theorem dX5_countOf_101 : decode cX5_countOf 101 = .ok (.aload_n 0, 1) := by decide +kernel
theorem dX5_countOf_102 : decode cX5_countOf 102 = .ok (.getfield 72, 3) := by decide +kernel
theorem dX5_countOf_105 : decode cX5_countOf 105 = .ok (.ireturn, 1) := by decide +kernel
theorem dX5_countOf_106 : decode cX5_countOf 106 = .ok (.bipush (-102), 2) := by decide +kernel
theorem dX5_countOf_108 : decode cX5_countOf 108 = .ok (.ireturn, 1) := by decide +kernel
set_option maxRecDepth 20000 in
theorem ggX5_count_X5_countOf : GoodIn wsX5_count wsX5_countOf := goodIn_r _ [5, 6, 7, 8, 9, 10, 11, 12, 13, 14, 4, 15, 16, 17, 18, 19, 20, 21, 22, 23, 24, 25, 26, 27, 28, 29, 30, 31, 32, 33, 34, 35, 36, 37, 38, 39, 40, 41, 42, 43, 44, 45, 46, 47, 48, 49, 50, 51, 52, 53, 54, 55, 56, 57, 58, 59, 60, 61, 62, 63] (by decide +kernel) (by decide +kernel)
set_option maxRecDepth 20000 in
theorem gX5_count_X5_countOf : GoodIn wsX5_count (wsV RX5 176 RX5 yX5_countOf wsX5_countOf) := goodIn_app (goodIn_of _ (by decide +kernel)) ggX5_count_X5_countOf
theorem dX5_count_0 : decode cX5_count 0 = .ok (.aload_n 0, 1) := by decide +kernel
theorem dX5_count_1 : decode cX5_count 1 = .ok (.iload_n 1, 1) := by decide +kernel
theorem dX5_count_2 : decode cX5_count 2 = .ok (.invokevirtual 176, 3) := by decide +kernel
theorem dX5_count_5 : decode cX5_count 5 = .ok (.ireturn, 1) := by decide +kernel
theorem dX5_say_0 : decode cX5_say 0 = .ok (.aload_n 0, 1) := by decide +kernel
theorem dX5_say_1 : decode cX5_say 1 = .ok (.ldc2_w 179, 3) := by decide +kernel
theorem dX5_say_4 : decode cX5_say 4 = .ok (.aload_n 0, 1) := by decide +kernel
theorem dX5_say_5 : decode cX5_say 5 = .ok (.getfield 181, 3) := by decide +kernel
theorem dX5_say_8 : decode cX5_say 8 = .ok (.lmul, 1) := by decide +kernel
theorem dX5_say_9 : decode cX5_say 9 = .ok (.lload_n 1, 1) := by decide +kernel
theorem dX5_say_10 : decode cX5_say 10 = .ok (.ladd, 1) := by decide +kernel
theorem dX5_say_11 : decode cX5_say 11 = .ok (.putfield 181, 3) := by decide +kernel
theorem dX5_say_14 : decode cX5_say 14 = .ok (.return_, 1) := by decide +kernel
set_option maxRecDepth 20000 in
theorem ggX5_sayChild_X5_tellChild : GoodIn wsX5_sayChild wsX5_tellChild := goodIn_r _ [5, 6, 7, 8, 9, 4, 10, 11, 12, 13, 14, 15, 16, 17, 18, 19, 20, 21, 22, 23, 24, 25, 26, 27, 28, 29, 30, 31, 32, 48, 49, 50, 51, 52, 53, 54, 55, 56, 57, 58, 59, 60, 61, 62, 63, 64, 65, 66, 67] (by decide +kernel) (by decide +kernel)
set_option maxRecDepth 20000 in
theorem gX5_sayChild_X5_tellChild : GoodIn wsX5_sayChild (wsV RX5 101 RX5 yX5_tellChild wsX5_tellChild) := goodIn_app (goodIn_of _ (by decide +kernel)) ggX5_sayChild_X5_tellChild
set_option maxRecDepth 20000 in
theorem ggX5_sayChild_X5_say : GoodIn wsX5_sayChild wsX5_say := goodIn_r _ [36, 37, 38, 48, 49, 50, 51, 52, 53, 54, 55, 56, 57, 58, 59, 60, 61, 62, 63, 64, 65, 66, 67] (by decide +kernel) (by decide +kernel)
set_option maxRecDepth 20000 in
theorem gX5_sayChild_X5_say : GoodIn wsX5_sayChild (wsV RX5 185 RX5 yX5_say wsX5_say) := goodIn_app (goodIn_of _ (by decide +kernel)) ggX5_sayChild_X5_say
set_option maxRecDepth 20000 in
theorem ggX5_sayChild_X5_arrivesOf : GoodIn wsX5_sayChild wsX5_arrivesOf := goodIn_r _ [42, 43, 15, 16, 17, 4, 18, 6, 19, 20, 21, 48, 49, 50, 51, 52, 53, 54, 55, 56, 57, 58, 59, 60, 61, 62, 63, 64, 65, 66, 67] (by decide +kernel) (by decide +kernel)
set_option maxRecDepth 20000 in
theorem gX5_sayChild_X5_arrivesOf : GoodIn wsX5_sayChild (wsV RX5 122 RX5 yX5_arrivesOf wsX5_arrivesOf) := goodIn_app (goodIn_of _ (by decide +kernel)) ggX5_sayChild_X5_arrivesOf
set_option maxRecDepth 20000 in
theorem ggX5_sayChild_X5_fromOf : GoodIn wsX5_sayChild wsX5_fromOf := goodIn_r _ [47, 39, 40, 41, 4, 42, 43, 15, 16, 17, 18, 6, 19, 20, 21, 48, 49, 50, 51, 52, 53, 54, 55, 56, 57, 58, 59, 60, 61, 62, 63, 64, 65, 66, 67] (by decide +kernel) (by decide +kernel)
set_option maxRecDepth 20000 in
theorem gX5_sayChild_X5_fromOf : GoodIn wsX5_sayChild (wsV RX5 125 RX5 yX5_fromOf wsX5_fromOf) := goodIn_app (goodIn_of _ (by decide +kernel)) ggX5_sayChild_X5_fromOf
theorem dX5_sayChild_0 : decode cX5_sayChild 0 = .ok (.iconst 0, 1) := by decide +kernel
theorem dX5_sayChild_1 : decode cX5_sayChild 1 = .ok (.istore_n 2, 1) := by decide +kernel
theorem dX5_sayChild_2 : decode cX5_sayChild 2 = .ok (.iload_n 2, 1) := by decide +kernel
theorem dX5_sayChild_3 : decode cX5_sayChild 3 = .ok (.bipush 7, 2) := by decide +kernel
theorem dX5_sayChild_5 : decode cX5_sayChild 5 = .ok (.if_icmp .ge 20, 3) := by decide +kernel
theorem dX5_sayChild_8 : decode cX5_sayChild 8 = .ok (.aload_n 0, 1) := by decide +kernel
theorem dX5_sayChild_9 : decode cX5_sayChild 9 = .ok (.aload_n 0, 1) := by decide +kernel
theorem dX5_sayChild_10 : decode cX5_sayChild 10 = .ok (.iload_n 1, 1) := by decide +kernel
theorem dX5_sayChild_11 : decode cX5_sayChild 11 = .ok (.iload_n 2, 1) := by decide +kernel
theorem dX5_sayChild_12 : decode cX5_sayChild 12 = .ok (.invokevirtual 101, 3) := by decide +kernel
theorem dX5_sayChild_15 : decode cX5_sayChild 15 = .ok (.i2l, 1) := by decide +kernel
theorem dX5_sayChild_16 : decode cX5_sayChild 16 = .ok (.invokevirtual 185, 3) := by decide +kernel
theorem dX5_sayChild_19 : decode cX5_sayChild 19 = .ok (.iinc 2 1, 3) := by decide +kernel
theorem dX5_sayChild_22 : decode cX5_sayChild 22 = .ok (.goto (-20), 3) := by decide +kernel
theorem dX5_sayChild_25 : decode cX5_sayChild 25 = .ok (.aload_n 0, 1) := by decide +kernel
theorem dX5_sayChild_26 : decode cX5_sayChild 26 = .ok (.aload_n 0, 1) := by decide +kernel
theorem dX5_sayChild_27 : decode cX5_sayChild 27 = .ok (.iload_n 1, 1) := by decide +kernel
theorem dX5_sayChild_28 : decode cX5_sayChild 28 = .ok (.iconst 0, 1) := by decide +kernel
theorem dX5_sayChild_29 : decode cX5_sayChild 29 = .ok (.invokevirtual 122, 3) := by decide +kernel
theorem dX5_sayChild_32 : decode cX5_sayChild 32 = .ok (.i2l, 1) := by decide +kernel
theorem dX5_sayChild_33 : decode cX5_sayChild 33 = .ok (.invokevirtual 185, 3) := by decide +kernel
theorem dX5_sayChild_36 : decode cX5_sayChild 36 = .ok (.aload_n 0, 1) := by decide +kernel
theorem dX5_sayChild_37 : decode cX5_sayChild 37 = .ok (.aload_n 0, 1) := by decide +kernel
theorem dX5_sayChild_38 : decode cX5_sayChild 38 = .ok (.iload_n 1, 1) := by decide +kernel
theorem dX5_sayChild_39 : decode cX5_sayChild 39 = .ok (.iconst 1, 1) := by decide +kernel
theorem dX5_sayChild_40 : decode cX5_sayChild 40 = .ok (.invokevirtual 122, 3) := by decide +kernel
theorem dX5_sayChild_43 : decode cX5_sayChild 43 = .ok (.i2l, 1) := by decide +kernel
theorem dX5_sayChild_44 : decode cX5_sayChild 44 = .ok (.invokevirtual 185, 3) := by decide +kernel
theorem dX5_sayChild_47 : decode cX5_sayChild 47 = .ok (.aload_n 0, 1) := by decide +kernel
theorem dX5_sayChild_48 : decode cX5_sayChild 48 = .ok (.aload_n 0, 1) := by decide +kernel
theorem dX5_sayChild_49 : decode cX5_sayChild 49 = .ok (.iload_n 1, 1) := by decide +kernel
theorem dX5_sayChild_50 : decode cX5_sayChild 50 = .ok (.iconst 5, 1) := by decide +kernel
theorem dX5_sayChild_51 : decode cX5_sayChild 51 = .ok (.invokevirtual 122, 3) := by decide +kernel
theorem dX5_sayChild_54 : decode cX5_sayChild 54 = .ok (.i2l, 1) := by decide +kernel
theorem dX5_sayChild_55 : decode cX5_sayChild 55 = .ok (.invokevirtual 185, 3) := by decide +kernel
theorem dX5_sayChild_58 : decode cX5_sayChild 58 = .ok (.aload_n 0, 1) := by decide +kernel
theorem dX5_sayChild_59 : decode cX5_sayChild 59 = .ok (.aload_n 0, 1) := by decide +kernel
theorem dX5_sayChild_60 : decode cX5_sayChild 60 = .ok (.iload_n 1, 1) := by decide +kernel
theorem dX5_sayChild_61 : decode cX5_sayChild 61 = .ok (.iconst 3, 1) := by decide +kernel
theorem dX5_sayChild_62 : decode cX5_sayChild 62 = .ok (.invokevirtual 125, 3) := by decide +kernel
theorem dX5_sayChild_65 : decode cX5_sayChild 65 = .ok (.i2l, 1) := by decide +kernel
theorem dX5_sayChild_66 : decode cX5_sayChild 66 = .ok (.invokevirtual 185, 3) := by decide +kernel
theorem dX5_sayChild_69 : decode cX5_sayChild 69 = .ok (.return_, 1) := by decide +kernel
set_option maxRecDepth 20000 in
theorem ggX5_digest_X5_sayChild : GoodIn wsX5_digest wsX5_sayChild := goodIn_r _ [10, 11, 12, 13, 9, 14, 15, 16, 17, 18, 19, 20, 21, 22, 23, 24, 25, 26, 27, 28, 29, 30, 31, 32, 33, 34, 35, 36, 37, 38, 39, 40, 41, 42, 43, 44, 45, 46, 2, 47, 48, 49, 50, 3, 51, 52, 53, 54, 90, 91, 92, 93, 94, 95, 96, 97, 98, 99, 100, 101, 102, 103, 104, 105, 106, 107, 108, 109] (by decide +kernel) (by decide +kernel)
set_option maxRecDepth 20000 in
theorem gX5_digest_X5_sayChild : GoodIn wsX5_digest (wsV RX5 191 RX5 yX5_sayChild wsX5_sayChild) := goodIn_app (goodIn_of _ (by decide +kernel)) ggX5_digest_X5_sayChild
set_option maxRecDepth 20000 in
theorem ggX5_digest_X5_lacks : GoodIn wsX5_digest wsX5_lacks := goodIn_r _ [58, 3, 90, 91, 92, 93, 94, 95, 96, 97, 98, 99, 100, 101, 102, 103, 104, 105, 106, 107, 108, 109] (by decide +kernel) (by decide +kernel)
set_option maxRecDepth 20000 in
theorem gX5_digest_X5_lacks : GoodIn wsX5_digest (wsV RX5 115 RX5 yX5_lacks wsX5_lacks) := goodIn_app (goodIn_of _ (by decide +kernel)) ggX5_digest_X5_lacks
set_option maxRecDepth 20000 in
theorem ggX5_digest_X5_soonOf : GoodIn wsX5_digest wsX5_soonOf := goodIn_r _ [62, 15, 3, 20, 21, 22, 9, 23, 90, 91, 92, 93, 94, 95, 96, 97, 98, 99, 100, 101, 102, 103, 104, 105, 106, 107, 108, 109] (by decide +kernel) (by decide +kernel)
set_option maxRecDepth 20000 in
theorem gX5_digest_X5_soonOf : GoodIn wsX5_digest (wsV RX5 128 RX5 yX5_soonOf wsX5_soonOf) := goodIn_app (goodIn_of _ (by decide +kernel)) ggX5_digest_X5_soonOf
set_option maxRecDepth 20000 in
theorem ggX5_digest_X5_say : GoodIn wsX5_digest wsX5_say := goodIn_r _ [45, 46, 2, 90, 91, 92, 93, 94, 95, 96, 97, 98, 99, 100, 101, 102, 103, 104, 105, 106, 107, 108, 109] (by decide +kernel) (by decide +kernel)
set_option maxRecDepth 20000 in
theorem gX5_digest_X5_say : GoodIn wsX5_digest (wsV RX5 185 RX5 yX5_say wsX5_say) := goodIn_app (goodIn_of _ (by decide +kernel)) ggX5_digest_X5_say
set_option maxRecDepth 20000 in
theorem ggX5_digest_X5_cureOf : GoodIn wsX5_digest wsX5_cureOf := goodIn_r _ [66, 3, 15, 67, 68, 69, 9, 70, 55, 56, 57, 58, 47, 48, 49, 50, 24, 25, 26, 27, 28, 29, 30, 90, 91, 92, 93, 94, 95, 96, 97, 98, 99, 100, 101, 102, 103, 104, 105, 106, 107, 108, 109] (by decide +kernel) (by decide +kernel)
set_option maxRecDepth 20000 in
theorem gX5_digest_X5_cureOf : GoodIn wsX5_digest (wsV RX5 134 RX5 yX5_cureOf wsX5_cureOf) := goodIn_app (goodIn_of _ (by decide +kernel)) ggX5_digest_X5_cureOf
set_option maxRecDepth 20000 in
theorem ggX5_digest_X5_countOf : GoodIn wsX5_digest wsX5_countOf := goodIn_r _ [74, 3, 75, 76, 35, 4, 77, 78, 79, 80, 9, 81, 15, 82, 83, 84, 85, 86, 87, 88, 89, 67, 68, 69, 70, 55, 56, 57, 58, 47, 48, 49, 50, 24, 25, 26, 27, 28, 29, 30, 90, 91, 92, 93, 94, 95, 96, 97, 98, 99, 100, 101, 102, 103, 104, 105, 106, 107, 108, 109] (by decide +kernel) (by decide +kernel)
set_option maxRecDepth 20000 in
theorem gX5_digest_X5_countOf : GoodIn wsX5_digest (wsV RX5 176 RX5 yX5_countOf wsX5_countOf) := goodIn_app (goodIn_of _ (by decide +kernel)) ggX5_digest_X5_countOf
theorem dX5_digest_0 : decode cX5_digest 0 = .ok (.aload_n 0, 1) := by decide +kernel
theorem dX5_digest_1 : decode cX5_digest 1 = .ok (.ldc2_w 189, 3) := by decide +kernel
theorem dX5_digest_4 : decode cX5_digest 4 = .ok (.putfield 181, 3) := by decide +kernel
theorem dX5_digest_7 : decode cX5_digest 7 = .ok (.iconst 0, 1) := by decide +kernel
theorem dX5_digest_8 : decode cX5_digest 8 = .ok (.istore_n 1, 1) := by decide +kernel
theorem dX5_digest_9 : decode cX5_digest 9 = .ok (.iload_n 1, 1) := by decide +kernel
theorem dX5_digest_10 : decode cX5_digest 10 = .ok (.aload_n 0, 1) := by decide +kernel
theorem dX5_digest_11 : decode cX5_digest 11 = .ok (.getfield 60, 3) := by decide +kernel
theorem dX5_digest_14 : decode cX5_digest 14 = .ok (.if_icmp .ge 14, 3) := by decide +kernel
theorem dX5_digest_17 : decode cX5_digest 17 = .ok (.aload_n 0, 1) := by decide +kernel
theorem dX5_digest_18 : decode cX5_digest 18 = .ok (.iload_n 1, 1) := by decide +kernel
theorem dX5_digest_19 : decode cX5_digest 19 = .ok (.invokevirtual 191, 3) := by decide +kernel
theorem dX5_digest_22 : decode cX5_digest 22 = .ok (.iinc 1 1, 3) := by decide +kernel
theorem dX5_digest_25 : decode cX5_digest 25 = .ok (.goto (-16), 3) := by decide +kernel
theorem dX5_digest_28 : decode cX5_digest 28 = .ok (.aload_n 0, 1) := by decide +kernel
theorem dX5_digest_29 : decode cX5_digest 29 = .ok (.invokevirtual 115, 3) := by decide +kernel
theorem dX5_digest_32 : decode cX5_digest 32 = .ok (.ifCond .ne 32, 3) := by decide +kernel
theorem dX5_digest_35 : decode cX5_digest 35 = .ok (.aload_n 0, 1) := by decide +kernel
theorem dX5_digest_36 : decode cX5_digest 36 = .ok (.aload_n 0, 1) := by decide +kernel
theorem dX5_digest_37 : decode cX5_digest 37 = .ok (.invokevirtual 128, 3) := by decide +kernel
theorem dX5_digest_40 : decode cX5_digest 40 = .ok (.i2l, 1) := by decide +kernel
theorem dX5_digest_41 : decode cX5_digest 41 = .ok (.invokevirtual 185, 3) := by decide +kernel
theorem dX5_digest_44 : decode cX5_digest 44 = .ok (.aload_n 0, 1) := by decide +kernel
theorem dX5_digest_45 : decode cX5_digest 45 = .ok (.aload_n 0, 1) := by decide +kernel
theorem dX5_digest_46 : decode cX5_digest 46 = .ok (.iconst 0, 1) := by decide +kernel
theorem dX5_digest_47 : decode cX5_digest 47 = .ok (.invokevirtual 134, 3) := by decide +kernel
theorem dX5_digest_50 : decode cX5_digest 50 = .ok (.i2l, 1) := by decide +kernel
theorem dX5_digest_51 : decode cX5_digest 51 = .ok (.invokevirtual 185, 3) := by decide +kernel
theorem dX5_digest_54 : decode cX5_digest 54 = .ok (.aload_n 0, 1) := by decide +kernel
theorem dX5_digest_55 : decode cX5_digest 55 = .ok (.aload_n 0, 1) := by decide +kernel
theorem dX5_digest_56 : decode cX5_digest 56 = .ok (.iconst 1, 1) := by decide +kernel
theorem dX5_digest_57 : decode cX5_digest 57 = .ok (.invokevirtual 134, 3) := by decide +kernel
theorem dX5_digest_60 : decode cX5_digest 60 = .ok (.i2l, 1) := by decide +kernel
theorem dX5_digest_61 : decode cX5_digest 61 = .ok (.invokevirtual 185, 3) := by decide +kernel
theorem dX5_digest_64 : decode cX5_digest 64 = .ok (.iconst 0, 1) := by decide +kernel
theorem dX5_digest_65 : decode cX5_digest 65 = .ok (.istore_n 1, 1) := by decide +kernel
theorem dX5_digest_66 : decode cX5_digest 66 = .ok (.iload_n 1, 1) := by decide +kernel
theorem dX5_digest_67 : decode cX5_digest 67 = .ok (.aload_n 0, 1) := by decide +kernel
theorem dX5_digest_68 : decode cX5_digest 68 = .ok (.getfield 41, 3) := by decide +kernel
theorem dX5_digest_71 : decode cX5_digest 71 = .ok (.if_icmp .ge 20, 3) := by decide +kernel
theorem dX5_digest_74 : decode cX5_digest 74 = .ok (.aload_n 0, 1) := by decide +kernel
theorem dX5_digest_75 : decode cX5_digest 75 = .ok (.aload_n 0, 1) := by decide +kernel
theorem dX5_digest_76 : decode cX5_digest 76 = .ok (.getfield 7, 3) := by decide +kernel
theorem dX5_digest_79 : decode cX5_digest 79 = .ok (.iload_n 1, 1) := by decide +kernel
theorem dX5_digest_80 : decode cX5_digest 80 = .ok (.iaload, 1) := by decide +kernel
theorem dX5_digest_81 : decode cX5_digest 81 = .ok (.i2l, 1) := by decide +kernel
theorem dX5_digest_82 : decode cX5_digest 82 = .ok (.invokevirtual 185, 3) := by decide +kernel
theorem dX5_digest_85 : decode cX5_digest 85 = .ok (.iinc 1 1, 3) := by decide +kernel
theorem dX5_digest_88 : decode cX5_digest 88 = .ok (.goto (-22), 3) := by decide +kernel
theorem dX5_digest_91 : decode cX5_digest 91 = .ok (.iconst 0, 1) := by decide +kernel
theorem dX5_digest_92 : decode cX5_digest 92 = .ok (.istore_n 1, 1) := by decide +kernel
theorem dX5_digest_93 : decode cX5_digest 93 = .ok (.iload_n 1, 1) := by decide +kernel
theorem dX5_digest_94 : decode cX5_digest 94 = .ok (.bipush 10, 2) := by decide +kernel
theorem dX5_digest_96 : decode cX5_digest 96 = .ok (.if_icmp .ge 19, 3) := by decide +kernel
theorem dX5_digest_99 : decode cX5_digest 99 = .ok (.aload_n 0, 1) := by decide +kernel
theorem dX5_digest_100 : decode cX5_digest 100 = .ok (.aload_n 0, 1) := by decide +kernel
theorem dX5_digest_101 : decode cX5_digest 101 = .ok (.iload_n 1, 1) := by decide +kernel
theorem dX5_digest_102 : decode cX5_digest 102 = .ok (.invokevirtual 176, 3) := by decide +kernel
theorem dX5_digest_105 : decode cX5_digest 105 = .ok (.i2l, 1) := by decide +kernel
theorem dX5_digest_106 : decode cX5_digest 106 = .ok (.invokevirtual 185, 3) := by decide +kernel
theorem dX5_digest_109 : decode cX5_digest 109 = .ok (.iinc 1 1, 3) := by decide +kernel
theorem dX5_digest_112 : decode cX5_digest 112 = .ok (.goto (-19), 3) := by decide +kernel
theorem dX5_digest_115 : decode cX5_digest 115 = .ok (.aload_n 0, 1) := by decide +kernel
theorem dX5_digest_116 : decode cX5_digest 116 = .ok (.getfield 181, 3) := by decide +kernel
theorem dX5_digest_119 : decode cX5_digest 119 = .ok (.lreturn, 1) := by decide +kernel
end
section
theorem dJ11_isValidCodePoint_9a6ad_0 : decode cJ11_isValidCodePoint_9a6ad 0 = .ok (.iload_n 0, 1) := by decide +kernel
theorem dJ11_isValidCodePoint_9a6ad_1 : decode cJ11_isValidCodePoint_9a6ad 1 = .ok (.bipush 16, 2) := by decide +kernel
theorem dJ11_isValidCodePoint_9a6ad_3 : decode cJ11_isValidCodePoint_9a6ad 3 = .ok (.iushr, 1) := by decide +kernel
theorem dJ11_isValidCodePoint_9a6ad_4 : decode cJ11_isValidCodePoint_9a6ad 4 = .ok (.istore_n 1, 1) := by decide +kernel
theorem dJ11_isValidCodePoint_9a6ad_5 : decode cJ11_isValidCodePoint_9a6ad 5 = .ok (.iload_n 1, 1) := by decide +kernel
theorem dJ11_isValidCodePoint_9a6ad_6 : decode cJ11_isValidCodePoint_9a6ad 6 = .ok (.bipush 17, 2) := by decide +kernel
theorem dJ11_isValidCodePoint_9a6ad_8 : decode cJ11_isValidCodePoint_9a6ad 8 = .ok (.if_icmp .ge 7, 3) := by decide +kernel
theorem dJ11_isValidCodePoint_9a6ad_11 : decode cJ11_isValidCodePoint_9a6ad 11 = .ok (.iconst 1, 1) := by decide +kernel
theorem dJ11_isValidCodePoint_9a6ad_12 : decode cJ11_isValidCodePoint_9a6ad 12 = .ok (.goto 4, 3) := by decide +kernel
theorem dJ11_isValidCodePoint_9a6ad_15 : decode cJ11_isValidCodePoint_9a6ad 15 = .ok (.iconst 0, 1) := by decide +kernel
theorem dJ11_isValidCodePoint_9a6ad_16 : decode cJ11_isValidCodePoint_9a6ad 16 = .ok (.ireturn, 1) := by decide +kernel
theorem dJ11_highSurrogate_5068e_0 : decode cJ11_highSurrogate_5068e 0 = .ok (.iload_n 0, 1) := by decide +kernel
theorem dJ11_highSurrogate_5068e_1 : decode cJ11_highSurrogate_5068e 1 = .ok (.bipush 10, 2) := by decide +kernel
theorem dJ11_highSurrogate_5068e_3 : decode cJ11_highSurrogate_5068e 3 = .ok (.iushr, 1) := by decide +kernel
theorem dJ11_highSurrogate_5068e_4 : decode cJ11_highSurrogate_5068e 4 = .ok (.ldc 110, 2) := by decide +kernel
theorem dJ11_highSurrogate_5068e_6 : decode cJ11_highSurrogate_5068e 6 = .ok (.iadd, 1) := by decide +kernel
theorem dJ11_highSurrogate_5068e_7 : decode cJ11_highSurrogate_5068e 7 = .ok (.i2c, 1) := by decide +kernel
theorem dJ11_highSurrogate_5068e_8 : decode cJ11_highSurrogate_5068e 8 = .ok (.ireturn, 1) := by decide +kernel
theorem dJ11_lowSurrogate_5068e_0 : decode cJ11_lowSurrogate_5068e 0 = .ok (.iload_n 0, 1) := by decide +kernel
theorem dJ11_lowSurrogate_5068e_1 : decode cJ11_lowSurrogate_5068e 1 = .ok (.sipush 1023, 3) := by decide +kernel
theorem dJ11_lowSurrogate_5068e_4 : decode cJ11_lowSurrogate_5068e 4 = .ok (.iand, 1) := by decide +kernel
theorem dJ11_lowSurrogate_5068e_5 : decode cJ11_lowSurrogate_5068e 5 = .ok (.ldc 76, 2) := by decide +kernel
theorem dJ11_lowSurrogate_5068e_7 : decode cJ11_lowSurrogate_5068e 7 = .ok (.iadd, 1) := by decide +kernel
theorem dJ11_lowSurrogate_5068e_8 : decode cJ11_lowSurrogate_5068e 8 = .ok (.i2c, 1) := by decide +kernel
theorem dJ11_lowSurrogate_5068e_9 : decode cJ11_lowSurrogate_5068e 9 = .ok (.ireturn, 1) := by decide +kernel
theorem dJ6_bitCount_0f7a4_0 : decode cJ6_bitCount_0f7a4 0 = .ok (.iload_n 0, 1) := by decide +kernel
theorem dJ6_bitCount_0f7a4_1 : decode cJ6_bitCount_0f7a4 1 = .ok (.iload_n 0, 1) := by decide +kernel
theorem dJ6_bitCount_0f7a4_2 : decode cJ6_bitCount_0f7a4 2 = .ok (.iconst 1, 1) := by decide +kernel
theorem dJ6_bitCount_0f7a4_3 : decode cJ6_bitCount_0f7a4 3 = .ok (.iushr, 1) := by decide +kernel
theorem dJ6_bitCount_0f7a4_4 : decode cJ6_bitCount_0f7a4 4 = .ok (.ldc_w 265, 3) := by decide +kernel
theorem dJ6_bitCount_0f7a4_7 : decode cJ6_bitCount_0f7a4 7 = .ok (.iand, 1) := by decide +kernel
theorem dJ6_bitCount_0f7a4_8 : decode cJ6_bitCount_0f7a4 8 = .ok (.isub, 1) := by decide +kernel
theorem dJ6_bitCount_0f7a4_9 : decode cJ6_bitCount_0f7a4 9 = .ok (.istore_n 0, 1) := by decide +kernel
theorem dJ6_bitCount_0f7a4_10 : decode cJ6_bitCount_0f7a4 10 = .ok (.iload_n 0, 1) := by decide +kernel
theorem dJ6_bitCount_0f7a4_11 : decode cJ6_bitCount_0f7a4 11 = .ok (.ldc_w 266, 3) := by decide +kernel
theorem dJ6_bitCount_0f7a4_14 : decode cJ6_bitCount_0f7a4 14 = .ok (.iand, 1) := by decide +kernel
theorem dJ6_bitCount_0f7a4_15 : decode cJ6_bitCount_0f7a4 15 = .ok (.iload_n 0, 1) := by decide +kernel
theorem dJ6_bitCount_0f7a4_16 : decode cJ6_bitCount_0f7a4 16 = .ok (.iconst 2, 1) := by decide +kernel
theorem dJ6_bitCount_0f7a4_17 : decode cJ6_bitCount_0f7a4 17 = .ok (.iushr, 1) := by decide +kernel
theorem dJ6_bitCount_0f7a4_18 : decode cJ6_bitCount_0f7a4 18 = .ok (.ldc_w 266, 3) := by decide +kernel
theorem dJ6_bitCount_0f7a4_21 : decode cJ6_bitCount_0f7a4 21 = .ok (.iand, 1) := by decide +kernel
theorem dJ6_bitCount_0f7a4_22 : decode cJ6_bitCount_0f7a4 22 = .ok (.iadd, 1) := by decide +kernel
theorem dJ6_bitCount_0f7a4_23 : decode cJ6_bitCount_0f7a4 23 = .ok (.istore_n 0, 1) := by decide +kernel
theorem dJ6_bitCount_0f7a4_24 : decode cJ6_bitCount_0f7a4 24 = .ok (.iload_n 0, 1) := by decide +kernel
theorem dJ6_bitCount_0f7a4_25 : decode cJ6_bitCount_0f7a4 25 = .ok (.iload_n 0, 1) := by decide +kernel
theorem dJ6_bitCount_0f7a4_26 : decode cJ6_bitCount_0f7a4 26 = .ok (.iconst 4, 1) := by decide +kernel
theorem dJ6_bitCount_0f7a4_27 : decode cJ6_bitCount_0f7a4 27 = .ok (.iushr, 1) := by decide +kernel
theorem dJ6_bitCount_0f7a4_28 : decode cJ6_bitCount_0f7a4 28 = .ok (.iadd, 1) := by decide +kernel
theorem dJ6_bitCount_0f7a4_29 : decode cJ6_bitCount_0f7a4 29 = .ok (.ldc_w 267, 3) := by decide +kernel
theorem dJ6_bitCount_0f7a4_32 : decode cJ6_bitCount_0f7a4 32 = .ok (.iand, 1) := by decide +kernel
theorem dJ6_bitCount_0f7a4_33 : decode cJ6_bitCount_0f7a4 33 = .ok (.istore_n 0, 1) := by decide +kernel
theorem dJ6_bitCount_0f7a4_34 : decode cJ6_bitCount_0f7a4 34 = .ok (.iload_n 0, 1) := by decide +kernel
theorem dJ6_bitCount_0f7a4_35 : decode cJ6_bitCount_0f7a4 35 = .ok (.iload_n 0, 1) := by decide +kernel
theorem dJ6_bitCount_0f7a4_36 : decode cJ6_bitCount_0f7a4 36 = .ok (.bipush 8, 2) := by decide +kernel
theorem dJ6_bitCount_0f7a4_38 : decode cJ6_bitCount_0f7a4 38 = .ok (.iushr, 1) := by decide +kernel
theorem dJ6_bitCount_0f7a4_39 : decode cJ6_bitCount_0f7a4 39 = .ok (.iadd, 1) := by decide +kernel
theorem dJ6_bitCount_0f7a4_40 : decode cJ6_bitCount_0f7a4 40 = .ok (.istore_n 0, 1) := by decide +kernel
theorem dJ6_bitCount_0f7a4_41 : decode cJ6_bitCount_0f7a4 41 = .ok (.iload_n 0, 1) := by decide +kernel
theorem dJ6_bitCount_0f7a4_42 : decode cJ6_bitCount_0f7a4 42 = .ok (.iload_n 0, 1) := by decide +kernel
theorem dJ6_bitCount_0f7a4_43 : decode cJ6_bitCount_0f7a4 43 = .ok (.bipush 16, 2) := by decide +kernel
theorem dJ6_bitCount_0f7a4_45 : decode cJ6_bitCount_0f7a4 45 = .ok (.iushr, 1) := by decide +kernel
theorem dJ6_bitCount_0f7a4_46 : decode cJ6_bitCount_0f7a4 46 = .ok (.iadd, 1) := by decide +kernel
theorem dJ6_bitCount_0f7a4_47 : decode cJ6_bitCount_0f7a4 47 = .ok (.istore_n 0, 1) := by decide +kernel
theorem dJ6_bitCount_0f7a4_48 : decode cJ6_bitCount_0f7a4 48 = .ok (.iload_n 0, 1) := by decide +kernel
theorem dJ6_bitCount_0f7a4_49 : decode cJ6_bitCount_0f7a4 49 = .ok (.bipush 63, 2) := by decide +kernel
theorem dJ6_bitCount_0f7a4_51 : decode cJ6_bitCount_0f7a4 51 = .ok (.iand, 1) := by decide +kernel
theorem dJ6_bitCount_0f7a4_52 : decode cJ6_bitCount_0f7a4 52 = .ok (.ireturn, 1) := by decide +kernel
theorem dJ9_max_7cf53_0 : decode cJ9_max_7cf53 0 = .ok (.iload_n 0, 1) := by decide +kernel
theorem dJ9_max_7cf53_1 : decode cJ9_max_7cf53 1 = .ok (.iload_n 1, 1) := by decide +kernel
theorem dJ9_max_7cf53_2 : decode cJ9_max_7cf53 2 = .ok (.if_icmp .lt 7, 3) := by decide +kernel
theorem dJ9_max_7cf53_5 : decode cJ9_max_7cf53 5 = .ok (.iload_n 0, 1) := by decide +kernel
theorem dJ9_max_7cf53_6 : decode cJ9_max_7cf53 6 = .ok (.goto 4, 3) := by decide +kernel
theorem dJ9_max_7cf53_9 : decode cJ9_max_7cf53 9 = .ok (.iload_n 1, 1) := by decide +kernel
theorem dJ9_max_7cf53_10 : decode cJ9_max_7cf53 10 = .ok (.ireturn, 1) := by decide +kernel
theorem dJ9_min_7cf53_0 : decode cJ9_min_7cf53 0 = .ok (.iload_n 0, 1) := by decide +kernel
theorem dJ9_min_7cf53_1 : decode cJ9_min_7cf53 1 = .ok (.iload_n 1, 1) := by decide +kernel
theorem dJ9_min_7cf53_2 : decode cJ9_min_7cf53 2 = .ok (.if_icmp .gt 7, 3) := by decide +kernel
theorem dJ9_min_7cf53_5 : decode cJ9_min_7cf53 5 = .ok (.iload_n 0, 1) := by decide +kernel
theorem dJ9_min_7cf53_6 : decode cJ9_min_7cf53 6 = .ok (.goto 4, 3) := by decide +kernel
theorem dJ9_min_7cf53_9 : decode cJ9_min_7cf53 9 = .ok (.iload_n 1, 1) := by decide +kernel
theorem dJ9_min_7cf53_10 : decode cJ9_min_7cf53 10 = .ok (.ireturn, 1) := by decide +kernel
set_option maxRecDepth 20000 in
theorem ggJ0_length_8abf5_J0_coder_7d493 : GoodIn wsJ0_length_8abf5 wsJ0_coder_7d493 := goodIn_r _ [6, 7, 8] (by decide +kernel) (by decide +kernel)
set_option maxRecDepth 20000 in
theorem gJ0_length_8abf5_J0_coder_7d493 : GoodIn wsJ0_length_8abf5 (wsV RJ0 335 RJ0 yJ0_coder_7d493 wsJ0_coder_7d493) := goodIn_app (goodIn_of _ (by decide +kernel)) ggJ0_length_8abf5_J0_coder_7d493
theorem dJ0_length_8abf5_0 : decode cJ0_length_8abf5 0 = .ok (.aload_n 0, 1) := by decide +kernel
theorem dJ0_length_8abf5_1 : decode cJ0_length_8abf5 1 = .ok (.getfield 9, 3) := by decide +kernel
theorem dJ0_length_8abf5_4 : decode cJ0_length_8abf5 4 = .ok (.arraylength, 1) := by decide +kernel
theorem dJ0_length_8abf5_5 : decode cJ0_length_8abf5 5 = .ok (.aload_n 0, 1) := by decide +kernel
theorem dJ0_length_8abf5_6 : decode cJ0_length_8abf5 6 = .ok (.invokevirtual 335, 3) := by decide +kernel
theorem dJ0_length_8abf5_9 : decode cJ0_length_8abf5 9 = .ok (.ishr, 1) := by decide +kernel
theorem dJ0_length_8abf5_10 : decode cJ0_length_8abf5 10 = .ok (.ireturn, 1) := by decide +kernel
set_option maxRecDepth 20000 in
theorem ggJ0_indexOf_0f7a4_J0_indexOf_7cf53 : GoodIn wsJ0_indexOf_0f7a4 wsJ0_indexOf_7cf53 := goodIn_r _ [5, 6, 7, 8, 9, 4, 10, 11, 12, 13, 14, 15, 16, 17, 18, 19, 20, 21, 22, 23, 24, 25, 26, 27, 28, 29, 30, 31, 32, 33, 34, 35, 36, 37, 38, 39, 40, 41, 42, 43, 44, 45, 46, 47, 48, 49, 50, 51, 52, 53, 54, 55, 56, 57, 58, 59, 60, 61, 62, 63, 64, 65, 66, 67, 68, 69, 70, 71, 72, 73, 74, 75, 76, 77, 78, 79, 80, 81, 82, 83, 84, 85] (by decide +kernel) (by decide +kernel)
set_option maxRecDepth 20000 in
theorem gJ0_indexOf_0f7a4_J0_indexOf_7cf53 : GoodIn wsJ0_indexOf_0f7a4 (wsV RJ0 633 RJ0 yJ0_indexOf_7cf53 wsJ0_indexOf_7cf53) := goodIn_app (goodIn_of _ (by decide +kernel)) ggJ0_indexOf_0f7a4_J0_indexOf_7cf53
theorem dJ0_indexOf_0f7a4_0 : decode cJ0_indexOf_0f7a4 0 = .ok (.aload_n 0, 1) := by decide +kernel
theorem dJ0_indexOf_0f7a4_1 : decode cJ0_indexOf_0f7a4 1 = .ok (.iload_n 1, 1) := by decide +kernel
theorem dJ0_indexOf_0f7a4_2 : decode cJ0_indexOf_0f7a4 2 = .ok (.iconst 0, 1) := by decide +kernel
theorem dJ0_indexOf_0f7a4_3 : decode cJ0_indexOf_0f7a4 3 = .ok (.invokevirtual 633, 3) := by decide +kernel
theorem dJ0_indexOf_0f7a4_6 : decode cJ0_indexOf_0f7a4 6 = .ok (.ireturn, 1) := by decide +kernel
set_option maxRecDepth 20000 in
theorem ggJ0_indexOf_7cf53_J0_isLatin1_aae02 : GoodIn wsJ0_indexOf_7cf53 wsJ0_isLatin1_aae02 := goodIn_r _ [6, 7, 8] (by decide +kernel) (by decide +kernel)
set_option maxRecDepth 20000 in
theorem gJ0_indexOf_7cf53_J0_isLatin1_aae02 : GoodIn wsJ0_indexOf_7cf53 (wsV RJ0 492 RJ0 yJ0_isLatin1_aae02 wsJ0_isLatin1_aae02) := goodIn_app (goodIn_of _ (by decide +kernel)) ggJ0_indexOf_7cf53_J0_isLatin1_aae02
set_option maxRecDepth 20000 in
theorem ggJ0_indexOf_7cf53_J0_length_8abf5 : GoodIn wsJ0_indexOf_7cf53 wsJ0_length_8abf5 := goodIn_r _ [12, 1, 13, 14, 15, 5, 16, 7, 8] (by decide +kernel) (by decide +kernel)
set_option maxRecDepth 20000 in
theorem gJ0_indexOf_7cf53_J0_length_8abf5 : GoodIn wsJ0_indexOf_7cf53 (wsV RJ0 505 RJ0 yJ0_length_8abf5 wsJ0_length_8abf5) := goodIn_app (goodIn_of _ (by decide +kernel)) ggJ0_indexOf_7cf53_J0_length_8abf5
set_option maxRecDepth 20000 in
theorem ggJ0_indexOf_7cf53_J1_indexOf_4cfef : GoodIn wsJ0_indexOf_7cf53 wsJ1_indexOf_4cfef := goodIn_r _ [20, 21, 22, 23, 24, 25, 26, 27, 28, 29, 19, 30, 31, 32, 33] (by decide +kernel) (by decide +kernel)
set_option maxRecDepth 20000 in
theorem gJ0_indexOf_7cf53_J1_indexOf_4cfef : GoodIn wsJ0_indexOf_7cf53 (va_wsS RJ0 637 yJ1_indexOf_4cfef wsJ1_indexOf_4cfef) := goodIn_app (goodIn_of _ (by decide +kernel)) ggJ0_indexOf_7cf53_J1_indexOf_4cfef
set_option maxRecDepth 20000 in
theorem ggJ0_indexOf_7cf53_J2_indexOf_4cfef : GoodIn wsJ0_indexOf_7cf53 wsJ2_indexOf_4cfef := goodIn_r _ [37, 38, 22, 23, 24, 39, 26, 27, 40, 41, 42, 36, 43, 44, 45, 46, 47, 48, 49, 50, 51, 5, 52, 53, 54, 55, 56, 57, 58, 59, 60, 61, 62, 63, 64, 65, 66, 67, 68, 69, 70, 71, 72, 73, 74, 75, 76, 77, 78, 79, 80, 81] (by decide +kernel) (by decide +kernel)
set_option maxRecDepth 20000 in
theorem gJ0_indexOf_7cf53_J2_indexOf_4cfef : GoodIn wsJ0_indexOf_7cf53 (va_wsS RJ0 640 yJ2_indexOf_4cfef wsJ2_indexOf_4cfef) := goodIn_app (goodIn_of _ (by decide +kernel)) ggJ0_indexOf_7cf53_J2_indexOf_4cfef
theorem dJ0_indexOf_7cf53_0 : decode cJ0_indexOf_7cf53 0 = .ok (.aload_n 0, 1) := by decide +kernel
theorem dJ0_indexOf_7cf53_1 : decode cJ0_indexOf_7cf53 1 = .ok (.invokevirtual 492, 3) := by decide +kernel
theorem dJ0_indexOf_7cf53_4 : decode cJ0_indexOf_7cf53 4 = .ok (.ifCond .eq 19, 3) := by decide +kernel
theorem dJ0_indexOf_7cf53_7 : decode cJ0_indexOf_7cf53 7 = .ok (.aload_n 0, 1) := by decide +kernel
theorem dJ0_indexOf_7cf53_8 : decode cJ0_indexOf_7cf53 8 = .ok (.getfield 9, 3) := by decide +kernel
theorem dJ0_indexOf_7cf53_11 : decode cJ0_indexOf_7cf53 11 = .ok (.iload_n 1, 1) := by decide +kernel
theorem dJ0_indexOf_7cf53_12 : decode cJ0_indexOf_7cf53 12 = .ok (.iload_n 2, 1) := by decide +kernel
theorem dJ0_indexOf_7cf53_13 : decode cJ0_indexOf_7cf53 13 = .ok (.aload_n 0, 1) := by decide +kernel
theorem dJ0_indexOf_7cf53_14 : decode cJ0_indexOf_7cf53 14 = .ok (.invokevirtual 505, 3) := by decide +kernel
theorem dJ0_indexOf_7cf53_17 : decode cJ0_indexOf_7cf53 17 = .ok (.invokestatic 637, 3) := by decide +kernel
theorem dJ0_indexOf_7cf53_20 : decode cJ0_indexOf_7cf53 20 = .ok (.goto 16, 3) := by decide +kernel
theorem dJ0_indexOf_7cf53_23 : decode cJ0_indexOf_7cf53 23 = .ok (.aload_n 0, 1) := by decide +kernel
theorem dJ0_indexOf_7cf53_24 : decode cJ0_indexOf_7cf53 24 = .ok (.getfield 9, 3) := by decide +kernel
theorem dJ0_indexOf_7cf53_27 : decode cJ0_indexOf_7cf53 27 = .ok (.iload_n 1, 1) := by decide +kernel
theorem dJ0_indexOf_7cf53_28 : decode cJ0_indexOf_7cf53 28 = .ok (.iload_n 2, 1) := by decide +kernel
theorem dJ0_indexOf_7cf53_29 : decode cJ0_indexOf_7cf53 29 = .ok (.aload_n 0, 1) := by decide +kernel
theorem dJ0_indexOf_7cf53_30 : decode cJ0_indexOf_7cf53 30 = .ok (.invokevirtual 505, 3) := by decide +kernel
theorem dJ0_indexOf_7cf53_33 : decode cJ0_indexOf_7cf53 33 = .ok (.invokestatic 640, 3) := by decide +kernel
theorem dJ0_indexOf_7cf53_36 : decode cJ0_indexOf_7cf53 36 = .ok (.ireturn, 1) := by decide +kernel
theorem dJ0_coder_7d493_0 : decode cJ0_coder_7d493 0 = .ok (.getstatic 38, 3) := by decide +kernel
theorem dJ0_coder_7d493_3 : decode cJ0_coder_7d493 3 = .ok (.ifCond .eq 10, 3) := by decide +kernel
theorem dJ0_coder_7d493_6 : decode cJ0_coder_7d493 6 = .ok (.aload_n 0, 1) := by decide +kernel
theorem dJ0_coder_7d493_7 : decode cJ0_coder_7d493 7 = .ok (.getfield 15, 3) := by decide +kernel
theorem dJ0_coder_7d493_10 : decode cJ0_coder_7d493 10 = .ok (.goto 4, 3) := by decide +kernel
theorem dJ0_coder_7d493_13 : decode cJ0_coder_7d493 13 = .ok (.iconst 1, 1) := by decide +kernel
theorem dJ0_coder_7d493_14 : decode cJ0_coder_7d493 14 = .ok (.ireturn, 1) := by decide +kernel
theorem dJ0_isLatin1_aae02_0 : decode cJ0_isLatin1_aae02 0 = .ok (.getstatic 38, 3) := by decide +kernel
theorem dJ0_isLatin1_aae02_3 : decode cJ0_isLatin1_aae02 3 = .ok (.ifCond .eq 14, 3) := by decide +kernel
theorem dJ0_isLatin1_aae02_6 : decode cJ0_isLatin1_aae02 6 = .ok (.aload_n 0, 1) := by decide +kernel
theorem dJ0_isLatin1_aae02_7 : decode cJ0_isLatin1_aae02 7 = .ok (.getfield 15, 3) := by decide +kernel
theorem dJ0_isLatin1_aae02_10 : decode cJ0_isLatin1_aae02 10 = .ok (.ifCond .ne 7, 3) := by decide +kernel
theorem dJ0_isLatin1_aae02_13 : decode cJ0_isLatin1_aae02 13 = .ok (.iconst 1, 1) := by decide +kernel
theorem dJ0_isLatin1_aae02_14 : decode cJ0_isLatin1_aae02 14 = .ok (.goto 4, 3) := by decide +kernel
theorem dJ0_isLatin1_aae02_17 : decode cJ0_isLatin1_aae02 17 = .ok (.iconst 0, 1) := by decide +kernel
theorem dJ0_isLatin1_aae02_18 : decode cJ0_isLatin1_aae02 18 = .ok (.ireturn, 1) := by decide +kernel
set_option maxRecDepth 20000 in
theorem ggJ0_checkBoundsBeginEnd_23922_J3_checkFromToIndex_8c36e : GoodIn wsJ0_checkBoundsBeginEnd_23922 wsJ3_checkFromToIndex_8c36e := goodIn_r _ [5] (by decide +kernel) (by decide +kernel)
set_option maxRecDepth 20000 in
theorem gJ0_checkBoundsBeginEnd_23922_J3_checkFromToIndex_8c36e : GoodIn wsJ0_checkBoundsBeginEnd_23922 (va_wsS RJ0 1062 yJ3_checkFromToIndex_8c36e wsJ3_checkFromToIndex_8c36e) := goodIn_app (goodIn_of _ (by decide +kernel)) ggJ0_checkBoundsBeginEnd_23922_J3_checkFromToIndex_8c36e
theorem dJ0_checkBoundsBeginEnd_23922_0 : decode cJ0_checkBoundsBeginEnd_23922 0 = .ok (.iload_n 0, 1) := by decide +kernel
theorem dJ0_checkBoundsBeginEnd_23922_1 : decode cJ0_checkBoundsBeginEnd_23922 1 = .ok (.iload_n 1, 1) := by decide +kernel
theorem dJ0_checkBoundsBeginEnd_23922_2 : decode cJ0_checkBoundsBeginEnd_23922 2 = .ok (.iload_n 2, 1) := by decide +kernel
theorem dJ0_checkBoundsBeginEnd_23922_3 : decode cJ0_checkBoundsBeginEnd_23922 3 = .ok (.getstatic 1053, 3) := by decide +kernel
theorem dJ0_checkBoundsBeginEnd_23922_6 : decode cJ0_checkBoundsBeginEnd_23922 6 = .ok (.invokestatic 1062, 3) := by decide +kernel
theorem dJ0_checkBoundsBeginEnd_23922_9 : decode cJ0_checkBoundsBeginEnd_23922 9 = .ok (.pop, 1) := by decide +kernel
theorem dJ0_checkBoundsBeginEnd_23922_10 : decode cJ0_checkBoundsBeginEnd_23922 10 = .ok (.return_, 1) := by decide +kernel
theorem dJ1_canEncode_9a6ad_0 : decode cJ1_canEncode_9a6ad 0 = .ok (.iload_n 0, 1) := by decide +kernel
theorem dJ1_canEncode_9a6ad_1 : decode cJ1_canEncode_9a6ad 1 = .ok (.ifCond .lt 14, 3) := by decide +kernel
theorem dJ1_canEncode_9a6ad_4 : decode cJ1_canEncode_9a6ad 4 = .ok (.iload_n 0, 1) := by decide +kernel
theorem dJ1_canEncode_9a6ad_5 : decode cJ1_canEncode_9a6ad 5 = .ok (.sipush 255, 3) := by decide +kernel
theorem dJ1_canEncode_9a6ad_8 : decode cJ1_canEncode_9a6ad 8 = .ok (.if_icmp .gt 7, 3) := by decide +kernel
theorem dJ1_canEncode_9a6ad_11 : decode cJ1_canEncode_9a6ad 11 = .ok (.iconst 1, 1) := by decide +kernel
theorem dJ1_canEncode_9a6ad_12 : decode cJ1_canEncode_9a6ad 12 = .ok (.goto 4, 3) := by decide +kernel
theorem dJ1_canEncode_9a6ad_15 : decode cJ1_canEncode_9a6ad 15 = .ok (.iconst 0, 1) := by decide +kernel
theorem dJ1_canEncode_9a6ad_16 : decode cJ1_canEncode_9a6ad 16 = .ok (.ireturn, 1) := by decide +kernel
set_option maxRecDepth 20000 in
theorem ggJ1_indexOf_4cfef_J1_canEncode_9a6ad : GoodIn wsJ1_indexOf_4cfef wsJ1_canEncode_9a6ad := goodIn_r _ [11] (by decide +kernel) (by decide +kernel)
set_option maxRecDepth 20000 in
theorem gJ1_indexOf_4cfef_J1_canEncode_9a6ad : GoodIn wsJ1_indexOf_4cfef (va_wsS RJ1 88 yJ1_canEncode_9a6ad wsJ1_canEncode_9a6ad) := goodIn_app (goodIn_of _ (by decide +kernel)) ggJ1_indexOf_4cfef_J1_canEncode_9a6ad
set_option maxRecDepth 20000 in
theorem ggJ1_indexOf_4cfef_J1_indexOfChar_4cfef : GoodIn wsJ1_indexOf_4cfef wsJ1_indexOfChar_4cfef := goodIn_r _ [14] (by decide +kernel) (by decide +kernel)
set_option maxRecDepth 20000 in
theorem gJ1_indexOf_4cfef_J1_indexOfChar_4cfef : GoodIn wsJ1_indexOf_4cfef (va_wsS RJ1 95 yJ1_indexOfChar_4cfef wsJ1_indexOfChar_4cfef) := goodIn_app (goodIn_of _ (by decide +kernel)) ggJ1_indexOf_4cfef_J1_indexOfChar_4cfef
theorem dJ1_indexOf_4cfef_0 : decode cJ1_indexOf_4cfef 0 = .ok (.iload_n 1, 1) := by decide +kernel
theorem dJ1_indexOf_4cfef_1 : decode cJ1_indexOf_4cfef 1 = .ok (.invokestatic 88, 3) := by decide +kernel
theorem dJ1_indexOf_4cfef_4 : decode cJ1_indexOf_4cfef 4 = .ok (.ifCond .ne 5, 3) := by decide +kernel
theorem dJ1_indexOf_4cfef_7 : decode cJ1_indexOf_4cfef 7 = .ok (.iconst (-1), 1) := by decide +kernel
theorem dJ1_indexOf_4cfef_8 : decode cJ1_indexOf_4cfef 8 = .ok (.ireturn, 1) := by decide +kernel
theorem dJ1_indexOf_4cfef_9 : decode cJ1_indexOf_4cfef 9 = .ok (.iload_n 2, 1) := by decide +kernel
theorem dJ1_indexOf_4cfef_10 : decode cJ1_indexOf_4cfef 10 = .ok (.iconst 0, 1) := by decide +kernel
theorem dJ1_indexOf_4cfef_11 : decode cJ1_indexOf_4cfef 11 = .ok (.invokestatic 92, 3) := by decide +kernel
theorem dJ1_indexOf_4cfef_14 : decode cJ1_indexOf_4cfef 14 = .ok (.istore_n 2, 1) := by decide +kernel
theorem dJ1_indexOf_4cfef_15 : decode cJ1_indexOf_4cfef 15 = .ok (.iload_n 3, 1) := by decide +kernel
theorem dJ1_indexOf_4cfef_16 : decode cJ1_indexOf_4cfef 16 = .ok (.aload_n 0, 1) := by decide +kernel
theorem dJ1_indexOf_4cfef_17 : decode cJ1_indexOf_4cfef 17 = .ok (.arraylength, 1) := by decide +kernel
theorem dJ1_indexOf_4cfef_18 : decode cJ1_indexOf_4cfef 18 = .ok (.invokestatic 38, 3) := by decide +kernel
theorem dJ1_indexOf_4cfef_21 : decode cJ1_indexOf_4cfef 21 = .ok (.istore_n 3, 1) := by decide +kernel
theorem dJ1_indexOf_4cfef_22 : decode cJ1_indexOf_4cfef 22 = .ok (.iload_n 2, 1) := by decide +kernel
theorem dJ1_indexOf_4cfef_23 : decode cJ1_indexOf_4cfef 23 = .ok (.iload_n 3, 1) := by decide +kernel
theorem dJ1_indexOf_4cfef_24 : decode cJ1_indexOf_4cfef 24 = .ok (.if_icmp .lt 5, 3) := by decide +kernel
theorem dJ1_indexOf_4cfef_27 : decode cJ1_indexOf_4cfef 27 = .ok (.iconst (-1), 1) := by decide +kernel
theorem dJ1_indexOf_4cfef_28 : decode cJ1_indexOf_4cfef 28 = .ok (.ireturn, 1) := by decide +kernel
theorem dJ1_indexOf_4cfef_29 : decode cJ1_indexOf_4cfef 29 = .ok (.aload_n 0, 1) := by decide +kernel
theorem dJ1_indexOf_4cfef_30 : decode cJ1_indexOf_4cfef 30 = .ok (.iload_n 1, 1) := by decide +kernel
theorem dJ1_indexOf_4cfef_31 : decode cJ1_indexOf_4cfef 31 = .ok (.iload_n 2, 1) := by decide +kernel
theorem dJ1_indexOf_4cfef_32 : decode cJ1_indexOf_4cfef 32 = .ok (.iload_n 3, 1) := by decide +kernel
theorem dJ1_indexOf_4cfef_33 : decode cJ1_indexOf_4cfef 33 = .ok (.invokestatic 95, 3) := by decide +kernel
theorem dJ1_indexOf_4cfef_36 : decode cJ1_indexOf_4cfef 36 = .ok (.ireturn, 1) := by decide +kernel
theorem dJ1_indexOfChar_4cfef_0 : decode cJ1_indexOfChar_4cfef 0 = .ok (.iload_n 1, 1) := by decide +kernel
theorem dJ1_indexOfChar_4cfef_1 : decode cJ1_indexOfChar_4cfef 1 = .ok (.i2b, 1) := by decide +kernel
theorem dJ1_indexOfChar_4cfef_2 : decode cJ1_indexOfChar_4cfef 2 = .ok (.istore 4, 2) := by decide +kernel
theorem dJ1_indexOfChar_4cfef_4 : decode cJ1_indexOfChar_4cfef 4 = .ok (.iload_n 2, 1) := by decide +kernel
theorem dJ1_indexOfChar_4cfef_5 : decode cJ1_indexOfChar_4cfef 5 = .ok (.istore 5, 2) := by decide +kernel
theorem dJ1_indexOfChar_4cfef_7 : decode cJ1_indexOfChar_4cfef 7 = .ok (.iload 5, 2) := by decide +kernel
theorem dJ1_indexOfChar_4cfef_9 : decode cJ1_indexOfChar_4cfef 9 = .ok (.iload_n 3, 1) := by decide +kernel
theorem dJ1_indexOfChar_4cfef_10 : decode cJ1_indexOfChar_4cfef 10 = .ok (.if_icmp .ge 21, 3) := by decide +kernel
theorem dJ1_indexOfChar_4cfef_13 : decode cJ1_indexOfChar_4cfef 13 = .ok (.aload_n 0, 1) := by decide +kernel
theorem dJ1_indexOfChar_4cfef_14 : decode cJ1_indexOfChar_4cfef 14 = .ok (.iload 5, 2) := by decide +kernel
theorem dJ1_indexOfChar_4cfef_16 : decode cJ1_indexOfChar_4cfef 16 = .ok (.baload, 1) := by decide +kernel
theorem dJ1_indexOfChar_4cfef_17 : decode cJ1_indexOfChar_4cfef 17 = .ok (.iload 4, 2) := by decide +kernel
theorem dJ1_indexOfChar_4cfef_19 : decode cJ1_indexOfChar_4cfef 19 = .ok (.if_icmp .ne 6, 3) := by decide +kernel
theorem dJ1_indexOfChar_4cfef_22 : decode cJ1_indexOfChar_4cfef 22 = .ok (.iload 5, 2) := by decide +kernel
theorem dJ1_indexOfChar_4cfef_24 : decode cJ1_indexOfChar_4cfef 24 = .ok (.ireturn, 1) := by decide +kernel
theorem dJ1_indexOfChar_4cfef_25 : decode cJ1_indexOfChar_4cfef 25 = .ok (.iinc 5 1, 3) := by decide +kernel
theorem dJ1_indexOfChar_4cfef_28 : decode cJ1_indexOfChar_4cfef 28 = .ok (.goto (-21), 3) := by decide +kernel
theorem dJ1_indexOfChar_4cfef_31 : decode cJ1_indexOfChar_4cfef 31 = .ok (.iconst (-1), 1) := by decide +kernel
theorem dJ1_indexOfChar_4cfef_32 : decode cJ1_indexOfChar_4cfef 32 = .ok (.ireturn, 1) := by decide +kernel
set_option maxRecDepth 20000 in
theorem ggJ2_getChar_3b067_J2_length_9d52b : GoodIn wsJ2_getChar_3b067 wsJ2_length_9d52b := goodIn_r _ [7] (by decide +kernel) (by decide +kernel)
set_option maxRecDepth 20000 in
theorem gJ2_getChar_3b067_J2_length_9d52b : GoodIn wsJ2_getChar_3b067 (va_wsS RJ2 48 yJ2_length_9d52b wsJ2_length_9d52b) := goodIn_app (goodIn_of _ (by decide +kernel)) ggJ2_getChar_3b067_J2_length_9d52b
theorem dJ2_getChar_3b067_0 : decode cJ2_getChar_3b067 0 = .ok (.getstatic 44, 3) := by decide +kernel
theorem dJ2_getChar_3b067_3 : decode cJ2_getChar_3b067 3 = .ok (.ifCond .ne 25, 3) := by decide +kernel
theorem dJ2_getChar_3b067_6 : decode cJ2_getChar_3b067 6 = .ok (.iload_n 1, 1) := by decide +kernel
theorem dJ2_getChar_3b067_7 : decode cJ2_getChar_3b067 7 = .ok (.ifCond .lt 11, 3) := by decide +kernel
theorem dJ2_getChar_3b067_10 : decode cJ2_getChar_3b067 10 = .ok (.iload_n 1, 1) := by decide +kernel
theorem dJ2_getChar_3b067_11 : decode cJ2_getChar_3b067 11 = .ok (.aload_n 0, 1) := by decide +kernel
theorem dJ2_getChar_3b067_12 : decode cJ2_getChar_3b067 12 = .ok (.invokestatic 48, 3) := by decide +kernel
theorem dJ2_getChar_3b067_15 : decode cJ2_getChar_3b067 15 = .ok (.if_icmp .lt 13, 3) := by decide +kernel
theorem dJ2_getChar_3b067_18 : decode cJ2_getChar_3b067 18 = .ok (.new 52, 3) := by decide +kernel
theorem dJ2_getChar_3b067_21 : decode cJ2_getChar_3b067 21 = .ok (.dup, 1) := by decide +kernel
theorem dJ2_getChar_3b067_22 : decode cJ2_getChar_3b067 22 = .ok (.ldc 54, 2) := by decide +kernel
theorem dJ2_getChar_3b067_24 : decode cJ2_getChar_3b067 24 = .ok (.invokespecial 56, 3) := by decide +kernel
theorem dJ2_getChar_3b067_27 : decode cJ2_getChar_3b067 27 = .ok (.athrow, 1) := by decide +kernel
theorem dJ2_getChar_3b067_28 : decode cJ2_getChar_3b067 28 = .ok (.iload_n 1, 1) := by decide +kernel
theorem dJ2_getChar_3b067_29 : decode cJ2_getChar_3b067 29 = .ok (.iconst 1, 1) := by decide +kernel
theorem dJ2_getChar_3b067_30 : decode cJ2_getChar_3b067 30 = .ok (.ishl, 1) := by decide +kernel
theorem dJ2_getChar_3b067_31 : decode cJ2_getChar_3b067 31 = .ok (.istore_n 1, 1) := by decide +kernel
theorem dJ2_getChar_3b067_32 : decode cJ2_getChar_3b067 32 = .ok (.aload_n 0, 1) := by decide +kernel
theorem dJ2_getChar_3b067_33 : decode cJ2_getChar_3b067 33 = .ok (.iload_n 1, 1) := by decide +kernel
theorem dJ2_getChar_3b067_34 : decode cJ2_getChar_3b067 34 = .ok (.iinc 1 1, 3) := by decide +kernel
theorem dJ2_getChar_3b067_37 : decode cJ2_getChar_3b067 37 = .ok (.baload, 1) := by decide +kernel
theorem dJ2_getChar_3b067_38 : decode cJ2_getChar_3b067 38 = .ok (.sipush 255, 3) := by decide +kernel
theorem dJ2_getChar_3b067_41 : decode cJ2_getChar_3b067 41 = .ok (.iand, 1) := by decide +kernel
theorem dJ2_getChar_3b067_42 : decode cJ2_getChar_3b067 42 = .ok (.getstatic 59, 3) := by decide +kernel
theorem dJ2_getChar_3b067_45 : decode cJ2_getChar_3b067 45 = .ok (.ishl, 1) := by decide +kernel
theorem dJ2_getChar_3b067_46 : decode cJ2_getChar_3b067 46 = .ok (.aload_n 0, 1) := by decide +kernel
theorem dJ2_getChar_3b067_47 : decode cJ2_getChar_3b067 47 = .ok (.iload_n 1, 1) := by decide +kernel
theorem dJ2_getChar_3b067_48 : decode cJ2_getChar_3b067 48 = .ok (.baload, 1) := by decide +kernel
theorem dJ2_getChar_3b067_49 : decode cJ2_getChar_3b067 49 = .ok (.sipush 255, 3) := by decide +kernel
theorem dJ2_getChar_3b067_52 : decode cJ2_getChar_3b067 52 = .ok (.iand, 1) := by decide +kernel
theorem dJ2_getChar_3b067_53 : decode cJ2_getChar_3b067 53 = .ok (.getstatic 63, 3) := by decide +kernel
theorem dJ2_getChar_3b067_56 : decode cJ2_getChar_3b067 56 = .ok (.ishl, 1) := by decide +kernel
theorem dJ2_getChar_3b067_57 : decode cJ2_getChar_3b067 57 = .ok (.ior, 1) := by decide +kernel
theorem dJ2_getChar_3b067_58 : decode cJ2_getChar_3b067 58 = .ok (.i2c, 1) := by decide +kernel
theorem dJ2_getChar_3b067_59 : decode cJ2_getChar_3b067 59 = .ok (.ireturn, 1) := by decide +kernel
theorem dJ2_length_9d52b_0 : decode cJ2_length_9d52b 0 = .ok (.aload_n 0, 1) := by decide +kernel
theorem dJ2_length_9d52b_1 : decode cJ2_length_9d52b 1 = .ok (.arraylength, 1) := by decide +kernel
theorem dJ2_length_9d52b_2 : decode cJ2_length_9d52b 2 = .ok (.iconst 1, 1) := by decide +kernel
theorem dJ2_length_9d52b_3 : decode cJ2_length_9d52b 3 = .ok (.ishr, 1) := by decide +kernel
theorem dJ2_length_9d52b_4 : decode cJ2_length_9d52b 4 = .ok (.ireturn, 1) := by decide +kernel
set_option maxRecDepth 20000 in
theorem ggJ2_indexOf_4cfef_J2_indexOfChar_4cfef : GoodIn wsJ2_indexOf_4cfef wsJ2_indexOfChar_4cfef := goodIn_r _ [12, 13, 14, 11, 15, 16, 17, 18, 19, 20, 21, 22, 23, 24, 25, 26, 27, 28, 29, 30, 31, 32, 33, 34, 35, 36] (by decide +kernel) (by decide +kernel)
set_option maxRecDepth 20000 in
theorem gJ2_indexOf_4cfef_J2_indexOfChar_4cfef : GoodIn wsJ2_indexOf_4cfef (va_wsS RJ2 228 yJ2_indexOfChar_4cfef wsJ2_indexOfChar_4cfef) := goodIn_app (goodIn_of _ (by decide +kernel)) ggJ2_indexOf_4cfef_J2_indexOfChar_4cfef
set_option maxRecDepth 20000 in
theorem ggJ2_indexOf_4cfef_J2_indexOfSupplementary_4cfef : GoodIn wsJ2_indexOf_4cfef wsJ2_indexOfSupplementary_4cfef := goodIn_r _ [39, 40, 41, 42, 43, 44, 45, 46, 47, 48, 49, 50, 51, 13, 14, 11, 15, 16, 17, 18, 19, 20, 21, 22, 23, 24, 25, 26, 27, 31, 32, 33, 34, 35, 36] (by decide +kernel) (by decide +kernel)
set_option maxRecDepth 20000 in
theorem gJ2_indexOf_4cfef_J2_indexOfSupplementary_4cfef : GoodIn wsJ2_indexOf_4cfef (va_wsS RJ2 232 yJ2_indexOfSupplementary_4cfef wsJ2_indexOfSupplementary_4cfef) := goodIn_app (goodIn_of _ (by decide +kernel)) ggJ2_indexOf_4cfef_J2_indexOfSupplementary_4cfef
theorem dJ2_indexOf_4cfef_0 : decode cJ2_indexOf_4cfef 0 = .ok (.iload_n 2, 1) := by decide +kernel
theorem dJ2_indexOf_4cfef_1 : decode cJ2_indexOf_4cfef 1 = .ok (.iconst 0, 1) := by decide +kernel
theorem dJ2_indexOf_4cfef_2 : decode cJ2_indexOf_4cfef 2 = .ok (.invokestatic 224, 3) := by decide +kernel
theorem dJ2_indexOf_4cfef_5 : decode cJ2_indexOf_4cfef 5 = .ok (.istore_n 2, 1) := by decide +kernel
theorem dJ2_indexOf_4cfef_6 : decode cJ2_indexOf_4cfef 6 = .ok (.iload_n 3, 1) := by decide +kernel
theorem dJ2_indexOf_4cfef_7 : decode cJ2_indexOf_4cfef 7 = .ok (.aload_n 0, 1) := by decide +kernel
theorem dJ2_indexOf_4cfef_8 : decode cJ2_indexOf_4cfef 8 = .ok (.arraylength, 1) := by decide +kernel
theorem dJ2_indexOf_4cfef_9 : decode cJ2_indexOf_4cfef 9 = .ok (.iconst 1, 1) := by decide +kernel
theorem dJ2_indexOf_4cfef_10 : decode cJ2_indexOf_4cfef 10 = .ok (.ishr, 1) := by decide +kernel
theorem dJ2_indexOf_4cfef_11 : decode cJ2_indexOf_4cfef 11 = .ok (.invokestatic 183, 3) := by decide +kernel
theorem dJ2_indexOf_4cfef_14 : decode cJ2_indexOf_4cfef 14 = .ok (.istore_n 3, 1) := by decide +kernel
theorem dJ2_indexOf_4cfef_15 : decode cJ2_indexOf_4cfef 15 = .ok (.iload_n 2, 1) := by decide +kernel
theorem dJ2_indexOf_4cfef_16 : decode cJ2_indexOf_4cfef 16 = .ok (.iload_n 3, 1) := by decide +kernel
theorem dJ2_indexOf_4cfef_17 : decode cJ2_indexOf_4cfef 17 = .ok (.if_icmp .lt 5, 3) := by decide +kernel
theorem dJ2_indexOf_4cfef_20 : decode cJ2_indexOf_4cfef 20 = .ok (.iconst (-1), 1) := by decide +kernel
theorem dJ2_indexOf_4cfef_21 : decode cJ2_indexOf_4cfef 21 = .ok (.ireturn, 1) := by decide +kernel
theorem dJ2_indexOf_4cfef_22 : decode cJ2_indexOf_4cfef 22 = .ok (.iload_n 1, 1) := by decide +kernel
theorem dJ2_indexOf_4cfef_23 : decode cJ2_indexOf_4cfef 23 = .ok (.ldc 227, 2) := by decide +kernel
theorem dJ2_indexOf_4cfef_25 : decode cJ2_indexOf_4cfef 25 = .ok (.if_icmp .ge 11, 3) := by decide +kernel
theorem dJ2_indexOf_4cfef_28 : decode cJ2_indexOf_4cfef 28 = .ok (.aload_n 0, 1) := by decide +kernel
theorem dJ2_indexOf_4cfef_29 : decode cJ2_indexOf_4cfef 29 = .ok (.iload_n 1, 1) := by decide +kernel
theorem dJ2_indexOf_4cfef_30 : decode cJ2_indexOf_4cfef 30 = .ok (.iload_n 2, 1) := by decide +kernel
theorem dJ2_indexOf_4cfef_31 : decode cJ2_indexOf_4cfef 31 = .ok (.iload_n 3, 1) := by decide +kernel
theorem dJ2_indexOf_4cfef_32 : decode cJ2_indexOf_4cfef 32 = .ok (.invokestatic 228, 3) := by decide +kernel
theorem dJ2_indexOf_4cfef_35 : decode cJ2_indexOf_4cfef 35 = .ok (.ireturn, 1) := by decide +kernel
theorem dJ2_indexOf_4cfef_36 : decode cJ2_indexOf_4cfef 36 = .ok (.aload_n 0, 1) := by decide +kernel
theorem dJ2_indexOf_4cfef_37 : decode cJ2_indexOf_4cfef 37 = .ok (.iload_n 1, 1) := by decide +kernel
theorem dJ2_indexOf_4cfef_38 : decode cJ2_indexOf_4cfef 38 = .ok (.iload_n 2, 1) := by decide +kernel
theorem dJ2_indexOf_4cfef_39 : decode cJ2_indexOf_4cfef 39 = .ok (.iload_n 3, 1) := by decide +kernel
theorem dJ2_indexOf_4cfef_40 : decode cJ2_indexOf_4cfef 40 = .ok (.invokestatic 232, 3) := by decide +kernel
theorem dJ2_indexOf_4cfef_43 : decode cJ2_indexOf_4cfef 43 = .ok (.ireturn, 1) := by decide +kernel
set_option maxRecDepth 20000 in
theorem ggJ2_indexOfChar_4cfef_J2_checkBoundsBeginEnd_d044e : GoodIn wsJ2_indexOfChar_4cfef wsJ2_checkBoundsBeginEnd_d044e := goodIn_r _ [4, 5, 6, 3, 7, 8, 9, 10, 11, 12, 13, 14, 15, 16] (by decide +kernel) (by decide +kernel)
set_option maxRecDepth 20000 in
theorem gJ2_indexOfChar_4cfef_J2_checkBoundsBeginEnd_d044e : GoodIn wsJ2_indexOfChar_4cfef (va_wsS RJ2 96 yJ2_checkBoundsBeginEnd_d044e wsJ2_checkBoundsBeginEnd_d044e) := goodIn_app (goodIn_of _ (by decide +kernel)) ggJ2_indexOfChar_4cfef_J2_checkBoundsBeginEnd_d044e
set_option maxRecDepth 20000 in
theorem ggJ2_indexOfChar_4cfef_J2_indexOfCharUnsafe_4cfef : GoodIn wsJ2_indexOfChar_4cfef wsJ2_indexOfCharUnsafe_4cfef := goodIn_r _ [19, 20, 21, 3, 22, 23, 24, 25, 5, 6, 7] (by decide +kernel) (by decide +kernel)
set_option maxRecDepth 20000 in
theorem gJ2_indexOfChar_4cfef_J2_indexOfCharUnsafe_4cfef : GoodIn wsJ2_indexOfChar_4cfef (va_wsS RJ2 244 yJ2_indexOfCharUnsafe_4cfef wsJ2_indexOfCharUnsafe_4cfef) := goodIn_app (goodIn_of _ (by decide +kernel)) ggJ2_indexOfChar_4cfef_J2_indexOfCharUnsafe_4cfef
theorem dJ2_indexOfChar_4cfef_0 : decode cJ2_indexOfChar_4cfef 0 = .ok (.iload_n 2, 1) := by decide +kernel
theorem dJ2_indexOfChar_4cfef_1 : decode cJ2_indexOfChar_4cfef 1 = .ok (.iload_n 3, 1) := by decide +kernel
theorem dJ2_indexOfChar_4cfef_2 : decode cJ2_indexOfChar_4cfef 2 = .ok (.aload_n 0, 1) := by decide +kernel
theorem dJ2_indexOfChar_4cfef_3 : decode cJ2_indexOfChar_4cfef 3 = .ok (.invokestatic 96, 3) := by decide +kernel
theorem dJ2_indexOfChar_4cfef_6 : decode cJ2_indexOfChar_4cfef 6 = .ok (.aload_n 0, 1) := by decide +kernel
theorem dJ2_indexOfChar_4cfef_7 : decode cJ2_indexOfChar_4cfef 7 = .ok (.iload_n 1, 1) := by decide +kernel
theorem dJ2_indexOfChar_4cfef_8 : decode cJ2_indexOfChar_4cfef 8 = .ok (.iload_n 2, 1) := by decide +kernel
theorem dJ2_indexOfChar_4cfef_9 : decode cJ2_indexOfChar_4cfef 9 = .ok (.iload_n 3, 1) := by decide +kernel
theorem dJ2_indexOfChar_4cfef_10 : decode cJ2_indexOfChar_4cfef 10 = .ok (.invokestatic 244, 3) := by decide +kernel
theorem dJ2_indexOfChar_4cfef_13 : decode cJ2_indexOfChar_4cfef 13 = .ok (.ireturn, 1) := by decide +kernel
set_option maxRecDepth 20000 in
theorem ggJ2_indexOfCharUnsafe_4cfef_J2_getChar_3b067 : GoodIn wsJ2_indexOfCharUnsafe_4cfef wsJ2_getChar_3b067 := goodIn_r _ [4, 5, 6, 7, 8, 9, 3, 10] (by decide +kernel) (by decide +kernel)
set_option maxRecDepth 20000 in
theorem gJ2_indexOfCharUnsafe_4cfef_J2_getChar_3b067 : GoodIn wsJ2_indexOfCharUnsafe_4cfef (va_wsS RJ2 71 yJ2_getChar_3b067 wsJ2_getChar_3b067) := goodIn_app (goodIn_of _ (by decide +kernel)) ggJ2_indexOfCharUnsafe_4cfef_J2_getChar_3b067
theorem dJ2_indexOfCharUnsafe_4cfef_0 : decode cJ2_indexOfCharUnsafe_4cfef 0 = .ok (.iload_n 2, 1) := by decide +kernel
theorem dJ2_indexOfCharUnsafe_4cfef_1 : decode cJ2_indexOfCharUnsafe_4cfef 1 = .ok (.istore 4, 2) := by decide +kernel
theorem dJ2_indexOfCharUnsafe_4cfef_3 : decode cJ2_indexOfCharUnsafe_4cfef 3 = .ok (.iload 4, 2) := by decide +kernel
theorem dJ2_indexOfCharUnsafe_4cfef_5 : decode cJ2_indexOfCharUnsafe_4cfef 5 = .ok (.iload_n 3, 1) := by decide +kernel
theorem dJ2_indexOfCharUnsafe_4cfef_6 : decode cJ2_indexOfCharUnsafe_4cfef 6 = .ok (.if_icmp .ge 22, 3) := by decide +kernel
theorem dJ2_indexOfCharUnsafe_4cfef_9 : decode cJ2_indexOfCharUnsafe_4cfef 9 = .ok (.aload_n 0, 1) := by decide +kernel
theorem dJ2_indexOfCharUnsafe_4cfef_10 : decode cJ2_indexOfCharUnsafe_4cfef 10 = .ok (.iload 4, 2) := by decide +kernel
theorem dJ2_indexOfCharUnsafe_4cfef_12 : decode cJ2_indexOfCharUnsafe_4cfef 12 = .ok (.invokestatic 71, 3) := by decide +kernel
theorem dJ2_indexOfCharUnsafe_4cfef_15 : decode cJ2_indexOfCharUnsafe_4cfef 15 = .ok (.iload_n 1, 1) := by decide +kernel
theorem dJ2_indexOfCharUnsafe_4cfef_16 : decode cJ2_indexOfCharUnsafe_4cfef 16 = .ok (.if_icmp .ne 6, 3) := by decide +kernel
theorem dJ2_indexOfCharUnsafe_4cfef_19 : decode cJ2_indexOfCharUnsafe_4cfef 19 = .ok (.iload 4, 2) := by decide +kernel
theorem dJ2_indexOfCharUnsafe_4cfef_21 : decode cJ2_indexOfCharUnsafe_4cfef 21 = .ok (.ireturn, 1) := by decide +kernel
theorem dJ2_indexOfCharUnsafe_4cfef_22 : decode cJ2_indexOfCharUnsafe_4cfef 22 = .ok (.iinc 4 1, 3) := by decide +kernel
theorem dJ2_indexOfCharUnsafe_4cfef_25 : decode cJ2_indexOfCharUnsafe_4cfef 25 = .ok (.goto (-22), 3) := by decide +kernel
theorem dJ2_indexOfCharUnsafe_4cfef_28 : decode cJ2_indexOfCharUnsafe_4cfef 28 = .ok (.iconst (-1), 1) := by decide +kernel
theorem dJ2_indexOfCharUnsafe_4cfef_29 : decode cJ2_indexOfCharUnsafe_4cfef 29 = .ok (.ireturn, 1) := by decide +kernel
set_option maxRecDepth 20000 in
theorem ggJ2_indexOfSupplementary_4cfef_J11_isValidCodePoint_9a6ad : GoodIn wsJ2_indexOfSupplementary_4cfef wsJ11_isValidCodePoint_9a6ad := goodIn_r _ [4] (by decide +kernel) (by decide +kernel)
set_option maxRecDepth 20000 in
theorem gJ2_indexOfSupplementary_4cfef_J11_isValidCodePoint_9a6ad : GoodIn wsJ2_indexOfSupplementary_4cfef (va_wsS RJ2 164 yJ11_isValidCodePoint_9a6ad wsJ11_isValidCodePoint_9a6ad) := goodIn_app (goodIn_of _ (by decide +kernel)) ggJ2_indexOfSupplementary_4cfef_J11_isValidCodePoint_9a6ad
set_option maxRecDepth 20000 in
theorem ggJ2_indexOfSupplementary_4cfef_J11_highSurrogate_5068e : GoodIn wsJ2_indexOfSupplementary_4cfef wsJ11_highSurrogate_5068e := goodIn_r _ [7, 8] (by decide +kernel) (by decide +kernel)
set_option maxRecDepth 20000 in
theorem gJ2_indexOfSupplementary_4cfef_J11_highSurrogate_5068e : GoodIn wsJ2_indexOfSupplementary_4cfef (va_wsS RJ2 157 yJ11_highSurrogate_5068e wsJ11_highSurrogate_5068e) := goodIn_app (goodIn_of _ (by decide +kernel)) ggJ2_indexOfSupplementary_4cfef_J11_highSurrogate_5068e
set_option maxRecDepth 20000 in
theorem ggJ2_indexOfSupplementary_4cfef_J11_lowSurrogate_5068e : GoodIn wsJ2_indexOfSupplementary_4cfef wsJ11_lowSurrogate_5068e := goodIn_r _ [11, 12] (by decide +kernel) (by decide +kernel)
set_option maxRecDepth 20000 in
theorem gJ2_indexOfSupplementary_4cfef_J11_lowSurrogate_5068e : GoodIn wsJ2_indexOfSupplementary_4cfef (va_wsS RJ2 161 yJ11_lowSurrogate_5068e wsJ11_lowSurrogate_5068e) := goodIn_app (goodIn_of _ (by decide +kernel)) ggJ2_indexOfSupplementary_4cfef_J11_lowSurrogate_5068e
set_option maxRecDepth 20000 in
theorem ggJ2_indexOfSupplementary_4cfef_J2_checkBoundsBeginEnd_d044e : GoodIn wsJ2_indexOfSupplementary_4cfef wsJ2_checkBoundsBeginEnd_d044e := goodIn_r _ [16, 17, 18, 15, 19, 20, 21, 22, 23, 24, 25, 26, 27, 28] (by decide +kernel) (by decide +kernel)
set_option maxRecDepth 20000 in
theorem gJ2_indexOfSupplementary_4cfef_J2_checkBoundsBeginEnd_d044e : GoodIn wsJ2_indexOfSupplementary_4cfef (va_wsS RJ2 96 yJ2_checkBoundsBeginEnd_d044e wsJ2_checkBoundsBeginEnd_d044e) := goodIn_app (goodIn_of _ (by decide +kernel)) ggJ2_indexOfSupplementary_4cfef_J2_checkBoundsBeginEnd_d044e
set_option maxRecDepth 20000 in
theorem ggJ2_indexOfSupplementary_4cfef_J2_getChar_3b067 : GoodIn wsJ2_indexOfSupplementary_4cfef wsJ2_getChar_3b067 := goodIn_r _ [31, 32, 33, 34, 17, 18, 15, 19] (by decide +kernel) (by decide +kernel)
set_option maxRecDepth 20000 in
theorem gJ2_indexOfSupplementary_4cfef_J2_getChar_3b067 : GoodIn wsJ2_indexOfSupplementary_4cfef (va_wsS RJ2 71 yJ2_getChar_3b067 wsJ2_getChar_3b067) := goodIn_app (goodIn_of _ (by decide +kernel)) ggJ2_indexOfSupplementary_4cfef_J2_getChar_3b067
theorem dJ2_indexOfSupplementary_4cfef_0 : decode cJ2_indexOfSupplementary_4cfef 0 = .ok (.iload_n 1, 1) := by decide +kernel
theorem dJ2_indexOfSupplementary_4cfef_1 : decode cJ2_indexOfSupplementary_4cfef 1 = .ok (.invokestatic 164, 3) := by decide +kernel
theorem dJ2_indexOfSupplementary_4cfef_4 : decode cJ2_indexOfSupplementary_4cfef 4 = .ok (.ifCond .eq 65, 3) := by decide +kernel
theorem dJ2_indexOfSupplementary_4cfef_7 : decode cJ2_indexOfSupplementary_4cfef 7 = .ok (.iload_n 1, 1) := by decide +kernel
theorem dJ2_indexOfSupplementary_4cfef_8 : decode cJ2_indexOfSupplementary_4cfef 8 = .ok (.invokestatic 157, 3) := by decide +kernel
theorem dJ2_indexOfSupplementary_4cfef_11 : decode cJ2_indexOfSupplementary_4cfef 11 = .ok (.istore 4, 2) := by decide +kernel
theorem dJ2_indexOfSupplementary_4cfef_13 : decode cJ2_indexOfSupplementary_4cfef 13 = .ok (.iload_n 1, 1) := by decide +kernel
theorem dJ2_indexOfSupplementary_4cfef_14 : decode cJ2_indexOfSupplementary_4cfef 14 = .ok (.invokestatic 161, 3) := by decide +kernel
theorem dJ2_indexOfSupplementary_4cfef_17 : decode cJ2_indexOfSupplementary_4cfef 17 = .ok (.istore 5, 2) := by decide +kernel
theorem dJ2_indexOfSupplementary_4cfef_19 : decode cJ2_indexOfSupplementary_4cfef 19 = .ok (.iload_n 2, 1) := by decide +kernel
theorem dJ2_indexOfSupplementary_4cfef_20 : decode cJ2_indexOfSupplementary_4cfef 20 = .ok (.iload_n 3, 1) := by decide +kernel
theorem dJ2_indexOfSupplementary_4cfef_21 : decode cJ2_indexOfSupplementary_4cfef 21 = .ok (.aload_n 0, 1) := by decide +kernel
theorem dJ2_indexOfSupplementary_4cfef_22 : decode cJ2_indexOfSupplementary_4cfef 22 = .ok (.invokestatic 96, 3) := by decide +kernel
theorem dJ2_indexOfSupplementary_4cfef_25 : decode cJ2_indexOfSupplementary_4cfef 25 = .ok (.iload_n 2, 1) := by decide +kernel
theorem dJ2_indexOfSupplementary_4cfef_26 : decode cJ2_indexOfSupplementary_4cfef 26 = .ok (.istore 6, 2) := by decide +kernel
theorem dJ2_indexOfSupplementary_4cfef_28 : decode cJ2_indexOfSupplementary_4cfef 28 = .ok (.iload 6, 2) := by decide +kernel
theorem dJ2_indexOfSupplementary_4cfef_30 : decode cJ2_indexOfSupplementary_4cfef 30 = .ok (.iload_n 3, 1) := by decide +kernel
theorem dJ2_indexOfSupplementary_4cfef_31 : decode cJ2_indexOfSupplementary_4cfef 31 = .ok (.iconst 1, 1) := by decide +kernel
theorem dJ2_indexOfSupplementary_4cfef_32 : decode cJ2_indexOfSupplementary_4cfef 32 = .ok (.isub, 1) := by decide +kernel
theorem dJ2_indexOfSupplementary_4cfef_33 : decode cJ2_indexOfSupplementary_4cfef 33 = .ok (.if_icmp .ge 36, 3) := by decide +kernel
theorem dJ2_indexOfSupplementary_4cfef_36 : decode cJ2_indexOfSupplementary_4cfef 36 = .ok (.aload_n 0, 1) := by decide +kernel
theorem dJ2_indexOfSupplementary_4cfef_37 : decode cJ2_indexOfSupplementary_4cfef 37 = .ok (.iload 6, 2) := by decide +kernel
theorem dJ2_indexOfSupplementary_4cfef_39 : decode cJ2_indexOfSupplementary_4cfef 39 = .ok (.invokestatic 71, 3) := by decide +kernel
theorem dJ2_indexOfSupplementary_4cfef_42 : decode cJ2_indexOfSupplementary_4cfef 42 = .ok (.iload 4, 2) := by decide +kernel
theorem dJ2_indexOfSupplementary_4cfef_44 : decode cJ2_indexOfSupplementary_4cfef 44 = .ok (.if_icmp .ne 19, 3) := by decide +kernel
theorem dJ2_indexOfSupplementary_4cfef_47 : decode cJ2_indexOfSupplementary_4cfef 47 = .ok (.aload_n 0, 1) := by decide +kernel
theorem dJ2_indexOfSupplementary_4cfef_48 : decode cJ2_indexOfSupplementary_4cfef 48 = .ok (.iload 6, 2) := by decide +kernel
theorem dJ2_indexOfSupplementary_4cfef_50 : decode cJ2_indexOfSupplementary_4cfef 50 = .ok (.iconst 1, 1) := by decide +kernel
theorem dJ2_indexOfSupplementary_4cfef_51 : decode cJ2_indexOfSupplementary_4cfef 51 = .ok (.iadd, 1) := by decide +kernel
theorem dJ2_indexOfSupplementary_4cfef_52 : decode cJ2_indexOfSupplementary_4cfef 52 = .ok (.invokestatic 71, 3) := by decide +kernel
theorem dJ2_indexOfSupplementary_4cfef_55 : decode cJ2_indexOfSupplementary_4cfef 55 = .ok (.iload 5, 2) := by decide +kernel
theorem dJ2_indexOfSupplementary_4cfef_57 : decode cJ2_indexOfSupplementary_4cfef 57 = .ok (.if_icmp .ne 6, 3) := by decide +kernel
theorem dJ2_indexOfSupplementary_4cfef_60 : decode cJ2_indexOfSupplementary_4cfef 60 = .ok (.iload 6, 2) := by decide +kernel
theorem dJ2_indexOfSupplementary_4cfef_62 : decode cJ2_indexOfSupplementary_4cfef 62 = .ok (.ireturn, 1) := by decide +kernel
theorem dJ2_indexOfSupplementary_4cfef_63 : decode cJ2_indexOfSupplementary_4cfef 63 = .ok (.iinc 6 1, 3) := by decide +kernel
theorem dJ2_indexOfSupplementary_4cfef_66 : decode cJ2_indexOfSupplementary_4cfef 66 = .ok (.goto (-38), 3) := by decide +kernel
theorem dJ2_indexOfSupplementary_4cfef_69 : decode cJ2_indexOfSupplementary_4cfef 69 = .ok (.iconst (-1), 1) := by decide +kernel
theorem dJ2_indexOfSupplementary_4cfef_70 : decode cJ2_indexOfSupplementary_4cfef 70 = .ok (.ireturn, 1) := by decide +kernel
set_option maxRecDepth 20000 in
theorem ggJ2_checkBoundsBeginEnd_d044e_J2_length_9d52b : GoodIn wsJ2_checkBoundsBeginEnd_d044e wsJ2_length_9d52b := goodIn_r _ [4] (by decide +kernel) (by decide +kernel)
set_option maxRecDepth 20000 in
theorem gJ2_checkBoundsBeginEnd_d044e_J2_length_9d52b : GoodIn wsJ2_checkBoundsBeginEnd_d044e (va_wsS RJ2 48 yJ2_length_9d52b wsJ2_length_9d52b) := goodIn_app (goodIn_of _ (by decide +kernel)) ggJ2_checkBoundsBeginEnd_d044e_J2_length_9d52b
set_option maxRecDepth 20000 in
theorem ggJ2_checkBoundsBeginEnd_d044e_J0_checkBoundsBeginEnd_23922 : GoodIn wsJ2_checkBoundsBeginEnd_d044e wsJ0_checkBoundsBeginEnd_23922 := goodIn_r _ [8, 9, 10, 11, 12, 13] (by decide +kernel) (by decide +kernel)
set_option maxRecDepth 20000 in
theorem gJ2_checkBoundsBeginEnd_d044e_J0_checkBoundsBeginEnd_23922 : GoodIn wsJ2_checkBoundsBeginEnd_d044e (va_wsS RJ2 241 yJ0_checkBoundsBeginEnd_23922 wsJ0_checkBoundsBeginEnd_23922) := goodIn_app (goodIn_of _ (by decide +kernel)) ggJ2_checkBoundsBeginEnd_d044e_J0_checkBoundsBeginEnd_23922
theorem dJ2_checkBoundsBeginEnd_d044e_0 : decode cJ2_checkBoundsBeginEnd_d044e 0 = .ok (.iload_n 0, 1) := by decide +kernel
theorem dJ2_checkBoundsBeginEnd_d044e_1 : decode cJ2_checkBoundsBeginEnd_d044e 1 = .ok (.iload_n 1, 1) := by decide +kernel
theorem dJ2_checkBoundsBeginEnd_d044e_2 : decode cJ2_checkBoundsBeginEnd_d044e 2 = .ok (.aload_n 2, 1) := by decide +kernel
theorem dJ2_checkBoundsBeginEnd_d044e_3 : decode cJ2_checkBoundsBeginEnd_d044e 3 = .ok (.invokestatic 48, 3) := by decide +kernel
theorem dJ2_checkBoundsBeginEnd_d044e_6 : decode cJ2_checkBoundsBeginEnd_d044e 6 = .ok (.invokestatic 241, 3) := by decide +kernel
theorem dJ2_checkBoundsBeginEnd_d044e_9 : decode cJ2_checkBoundsBeginEnd_d044e 9 = .ok (.return_, 1) := by decide +kernel
theorem dJ3_checkFromToIndex_8c36e_0 : decode cJ3_checkFromToIndex_8c36e 0 = .ok (.iload_n 0, 1) := by decide +kernel
theorem dJ3_checkFromToIndex_8c36e_1 : decode cJ3_checkFromToIndex_8c36e 1 = .ok (.ifCond .lt 13, 3) := by decide +kernel
theorem dJ3_checkFromToIndex_8c36e_4 : decode cJ3_checkFromToIndex_8c36e 4 = .ok (.iload_n 0, 1) := by decide +kernel
theorem dJ3_checkFromToIndex_8c36e_5 : decode cJ3_checkFromToIndex_8c36e 5 = .ok (.iload_n 1, 1) := by decide +kernel
theorem dJ3_checkFromToIndex_8c36e_6 : decode cJ3_checkFromToIndex_8c36e 6 = .ok (.if_icmp .gt 8, 3) := by decide +kernel
theorem dJ3_checkFromToIndex_8c36e_9 : decode cJ3_checkFromToIndex_8c36e 9 = .ok (.iload_n 1, 1) := by decide +kernel
theorem dJ3_checkFromToIndex_8c36e_10 : decode cJ3_checkFromToIndex_8c36e 10 = .ok (.iload_n 2, 1) := by decide +kernel
theorem dJ3_checkFromToIndex_8c36e_11 : decode cJ3_checkFromToIndex_8c36e 11 = .ok (.if_icmp .le 11, 3) := by decide +kernel
theorem dJ3_checkFromToIndex_8c36e_14 : decode cJ3_checkFromToIndex_8c36e 14 = .ok (.aload_n 3, 1) := by decide +kernel
theorem dJ3_checkFromToIndex_8c36e_15 : decode cJ3_checkFromToIndex_8c36e 15 = .ok (.iload_n 0, 1) := by decide +kernel
theorem dJ3_checkFromToIndex_8c36e_16 : decode cJ3_checkFromToIndex_8c36e 16 = .ok (.iload_n 1, 1) := by decide +kernel
theorem dJ3_checkFromToIndex_8c36e_17 : decode cJ3_checkFromToIndex_8c36e 17 = .ok (.iload_n 2, 1) := by decide +kernel
theorem dJ3_checkFromToIndex_8c36e_18 : decode cJ3_checkFromToIndex_8c36e 18 = .ok (.invokestatic 99, 3) := by decide +kernel
theorem dJ3_checkFromToIndex_8c36e_21 : decode cJ3_checkFromToIndex_8c36e 21 = .ok (.athrow, 1) := by decide +kernel
theorem dJ3_checkFromToIndex_8c36e_22 : decode cJ3_checkFromToIndex_8c36e 22 = .ok (.iload_n 0, 1) := by decide +kernel
theorem dJ3_checkFromToIndex_8c36e_23 : decode cJ3_checkFromToIndex_8c36e 23 = .ok (.ireturn, 1) := by decide +kernel
end
section
set_option maxRecDepth 20000 in
theorem ggL_law_X4_init : GoodIn wsL_law wsX4_init := goodIn_r _ [8, 9, 10, 11, 12, 13, 14, 15, 16, 17, 18, 19, 20, 21, 22, 23, 24, 25, 26, 27, 28, 29, 30, 31, 32, 33, 34, 35, 36, 37, 38, 39, 40, 41, 42, 43, 44, 45, 46, 47, 48, 49, 50, 51, 686, 687, 660, 661, 662, 663, 664, 665, 688, 689, 690, 691, 692, 693, 694, 695, 696, 697, 698, 699] (by decide +kernel) (by decide +kernel)
set_option maxRecDepth 20000 in
theorem gL_law_X4_init : GoodIn wsL_law (wsX4_init) := ggL_law_X4_init
set_option maxRecDepth 20000 in
theorem ggL_law_X5_init : GoodIn wsL_law wsX5_init := goodIn_r _ [54, 55, 10, 11, 30, 56, 57, 58, 59, 60, 61, 62, 63, 666, 667, 668, 669, 670, 671, 672, 673, 674, 675, 676, 677, 678, 679, 680, 681, 682, 683, 684, 685] (by decide +kernel) (by decide +kernel)
set_option maxRecDepth 20000 in
theorem gL_law_X5_init : GoodIn wsL_law (wsX5_init) := ggL_law_X5_init
set_option maxRecDepth 20000 in
theorem ggL_law_X4_letter : GoodIn wsL_law wsX4_letter := goodIn_r _ [67, 15, 68, 69, 70, 71, 14, 72, 32, 73, 74, 75, 76, 31, 77, 660, 661, 662, 663, 664, 665, 686, 687] (by decide +kernel) (by decide +kernel)
set_option maxRecDepth 20000 in
theorem gL_law_X4_letter : GoodIn wsL_law (wsV RL 13 RX4 yX4_letter wsX4_letter) := goodIn_app (goodIn_of _ (by decide +kernel)) ggL_law_X4_letter
set_option maxRecDepth 20000 in
theorem ggL_law_X5_letter : GoodIn wsL_law wsX5_letter := goodIn_r _ [81, 82, 83, 56, 84, 85, 5, 86, 666, 667, 668, 669, 670, 671, 672, 673, 674, 675, 676, 677, 678, 679, 680, 681, 682, 683, 684, 685] (by decide +kernel) (by decide +kernel)
set_option maxRecDepth 20000 in
theorem gL_law_X5_letter : GoodIn wsL_law (wsV RL 17 RX5 yX5_letter wsX5_letter) := goodIn_app (goodIn_of _ (by decide +kernel)) ggL_law_X5_letter
set_option maxRecDepth 20000 in
theorem ggL_law_X4_blank : GoodIn wsL_law wsX4_blank := goodIn_r _ [90, 15, 68, 660, 661, 662, 663, 664, 665, 686, 687] (by decide +kernel) (by decide +kernel)
set_option maxRecDepth 20000 in
theorem gL_law_X4_blank : GoodIn wsL_law (wsV RL 18 RX4 yX4_blank wsX4_blank) := goodIn_app (goodIn_of _ (by decide +kernel)) ggL_law_X4_blank
set_option maxRecDepth 20000 in
theorem ggL_law_X5_blank : GoodIn wsL_law wsX5_blank := goodIn_r _ [94, 83, 666, 667, 668, 669, 670, 671, 672, 673, 674, 675, 676, 677, 678, 679, 680, 681, 682, 683, 684, 685] (by decide +kernel) (by decide +kernel)
set_option maxRecDepth 20000 in
theorem gL_law_X5_blank : GoodIn wsL_law (wsV RL 22 RX5 yX5_blank wsX5_blank) := goodIn_app (goodIn_of _ (by decide +kernel)) ggL_law_X5_blank
set_option maxRecDepth 20000 in
theorem ggL_law_X4_fault : GoodIn wsL_law wsX4_fault := goodIn_r _ [98, 15, 99, 100, 101, 14, 102, 32, 103, 104, 105, 106, 31, 107, 108, 109, 110, 111, 112, 113, 114, 115, 116, 117, 118, 119, 120, 121, 122, 123, 124, 125, 126, 127, 128, 129, 130, 131, 132, 133, 134, 135, 136, 137, 138, 139, 140, 141, 142, 143, 144, 145, 146, 147, 148, 149, 150, 151, 152, 153, 154, 155, 156, 157, 158, 159, 160, 161, 162, 163, 164, 165, 166, 167, 168, 169, 170, 171, 172, 173, 174, 175, 176, 177, 178, 179, 180, 181, 182, 183, 184, 185, 186, 187, 188, 189, 190, 191, 192, 193, 194, 195, 660, 661, 662, 663, 664, 665, 686, 687] (by decide +kernel) (by decide +kernel)
set_option maxRecDepth 20000 in
theorem gL_law_X4_fault : GoodIn wsL_law (wsV RL 23 RX4 yX4_fault wsX4_fault) := goodIn_app (goodIn_of _ (by decide +kernel)) ggL_law_X4_fault
set_option maxRecDepth 20000 in
theorem ggL_law_X5_fault : GoodIn wsL_law wsX5_fault := goodIn_r _ [199, 200, 201, 202, 5, 203, 83, 56, 204, 205, 206, 207, 208, 209, 210, 211, 84, 85, 86, 666, 667, 668, 669, 670, 671, 672, 673, 674, 675, 676, 677, 678, 679, 680, 681, 682, 683, 684, 685] (by decide +kernel) (by decide +kernel)
set_option maxRecDepth 20000 in
theorem gL_law_X5_fault : GoodIn wsL_law (wsV RL 26 RX5 yX5_fault wsX5_fault) := goodIn_app (goodIn_of _ (by decide +kernel)) ggL_law_X5_fault
set_option maxRecDepth 20000 in
theorem ggL_law_X4_school : GoodIn wsL_law wsX4_school := goodIn_r _ [215, 15, 19, 68, 20, 216, 26, 217, 218, 219, 14, 220, 32, 221, 222, 223, 224, 225, 100, 101, 102, 103, 104, 105, 106, 31, 107, 108, 109, 110, 111, 112, 113, 114, 115, 116, 117, 118, 119, 120, 121, 122, 123, 124, 125, 126, 127, 128, 129, 130, 131, 132, 133, 134, 135, 136, 137, 138, 139, 140, 141, 142, 143, 144, 145, 146, 147, 148, 149, 150, 151, 152, 153, 154, 155, 156, 157, 158, 159, 160, 161, 162, 163, 164, 165, 166, 167, 168, 169, 170, 171, 172, 173, 174, 175, 176, 177, 178, 179, 180, 181, 182, 183, 184, 185, 186, 187, 188, 189, 190, 191, 192, 193, 194, 195, 226, 227, 228, 18, 229, 230, 44, 45, 46, 47, 36, 37, 38, 40, 231, 232, 233, 234, 235, 236, 237, 238, 239, 660, 661, 662, 663, 664, 665, 686, 687, 688, 689, 690, 691, 692, 693, 694, 695, 696, 697, 698] (by decide +kernel) (by decide +kernel)
set_option maxRecDepth 20000 in
theorem gL_law_X4_school : GoodIn wsL_law (wsV RL 27 RX4 yX4_school wsX4_school) := goodIn_app (goodIn_of _ (by decide +kernel)) ggL_law_X4_school
set_option maxRecDepth 20000 in
theorem ggL_law_X5_school : GoodIn wsL_law wsX5_school := goodIn_r _ [243, 83, 244, 57, 56, 245, 246, 247, 248, 200, 201, 202, 5, 203, 204, 205, 206, 207, 208, 209, 210, 211, 84, 85, 86, 666, 667, 668, 669, 670, 671, 672, 673, 674, 675, 676, 677, 678, 679, 680, 681, 682, 683, 684, 685] (by decide +kernel) (by decide +kernel)
set_option maxRecDepth 20000 in
theorem gL_law_X5_school : GoodIn wsL_law (wsV RL 30 RX5 yX5_school wsX5_school) := goodIn_app (goodIn_of _ (by decide +kernel)) ggL_law_X5_school
set_option maxRecDepth 20000 in
theorem ggL_law_X4_child : GoodIn wsL_law wsX4_child := goodIn_r _ [252, 19, 253, 254, 255, 256, 257, 258, 259, 18, 260, 44, 261, 262, 263, 264, 38, 40, 36, 37, 265, 266, 267, 268, 269, 270, 271, 272, 273, 274, 275, 276, 45, 41, 42, 43, 277, 278, 279, 280, 281, 282, 283, 284, 285, 136, 137, 138, 286, 287, 288, 660, 661, 662, 663, 664, 665, 688, 689, 690, 691, 692, 693, 694, 695, 696, 697, 698] (by decide +kernel) (by decide +kernel)
set_option maxRecDepth 20000 in
theorem gL_law_X4_child : GoodIn wsL_law (wsV RL 31 RX4 yX4_child wsX4_child) := goodIn_app (goodIn_of _ (by decide +kernel)) ggL_law_X4_child
set_option maxRecDepth 20000 in
theorem ggL_law_X5_child : GoodIn wsL_law wsX5_child := goodIn_r _ [292, 293, 294, 295, 5, 296, 244, 84, 85, 86, 297, 298, 299, 300, 57, 301, 302, 303, 304, 305, 306, 307, 308, 309, 310, 311, 312, 313, 314, 315, 316, 317, 318, 319, 247, 58, 320, 321, 322, 323, 59, 666, 667, 668, 669, 670, 671, 672, 673, 674, 675, 676, 677, 678, 679, 680, 681, 682, 683, 684, 685] (by decide +kernel) (by decide +kernel)
set_option maxRecDepth 20000 in
theorem gL_law_X5_child : GoodIn wsL_law (wsV RL 35 RX5 yX5_child wsX5_child) := goodIn_app (goodIn_of _ (by decide +kernel)) ggL_law_X5_child
set_option maxRecDepth 20000 in
theorem ggL_law_X4_as : GoodIn wsL_law wsX4_as := goodIn_r _ [327, 19, 253, 257, 258, 259, 18, 260, 44, 328, 329, 267, 330, 660, 661, 662, 663, 664, 665, 688, 689, 690, 691, 692, 693, 694, 695, 696, 697, 698] (by decide +kernel) (by decide +kernel)
set_option maxRecDepth 20000 in
theorem gL_law_X4_as : GoodIn wsL_law (wsV RL 36 RX4 yX4_as wsX4_as) := goodIn_app (goodIn_of _ (by decide +kernel)) ggL_law_X4_as
set_option maxRecDepth 20000 in
theorem ggL_law_X5_as : GoodIn wsL_law wsX5_as := goodIn_r _ [334, 335, 57, 293, 294, 295, 5, 296, 244, 84, 85, 86, 666, 667, 668, 669, 670, 671, 672, 673, 674, 675, 676, 677, 678, 679, 680, 681, 682, 683, 684, 685] (by decide +kernel) (by decide +kernel)
set_option maxRecDepth 20000 in
theorem gL_law_X5_as : GoodIn wsL_law (wsV RL 39 RX5 yX5_as wsX5_as) := goodIn_app (goodIn_of _ (by decide +kernel)) ggL_law_X5_as
set_option maxRecDepth 20000 in
theorem ggL_law_X4_teaches : GoodIn wsL_law wsX4_teaches := goodIn_r _ [339, 19, 253, 254, 340, 341, 342, 2, 343, 257, 258, 259, 18, 260, 44, 344, 345, 346, 347, 266, 267, 268, 660, 661, 662, 663, 664, 665, 688, 689, 690, 691, 692, 693, 694, 695, 696, 697, 698] (by decide +kernel) (by decide +kernel)
set_option maxRecDepth 20000 in
theorem gL_law_X4_teaches : GoodIn wsL_law (wsV RL 40 RX4 yX4_teaches wsX4_teaches) := goodIn_app (goodIn_of _ (by decide +kernel)) ggL_law_X4_teaches
set_option maxRecDepth 20000 in
theorem ggL_law_X5_teaches : GoodIn wsL_law wsX5_teaches := goodIn_r _ [351, 293, 294, 295, 5, 296, 244, 84, 85, 86, 352, 353, 354, 355, 309, 310, 311, 312, 57, 313, 314, 315, 666, 667, 668, 669, 670, 671, 672, 673, 674, 675, 676, 677, 678, 679, 680, 681, 682, 683, 684, 685] (by decide +kernel) (by decide +kernel)
set_option maxRecDepth 20000 in
theorem gL_law_X5_teaches : GoodIn wsL_law (wsV RL 43 RX5 yX5_teaches wsX5_teaches) := goodIn_app (goodIn_of _ (by decide +kernel)) ggL_law_X5_teaches
set_option maxRecDepth 20000 in
theorem ggL_law_X4_tell : GoodIn wsL_law wsX4_tell := goodIn_r _ [359, 19, 255, 340, 341, 342, 2, 343, 257, 258, 259, 18, 260, 44, 344, 345, 346, 660, 661, 662, 663, 664, 665, 688, 689, 690, 691, 692, 693, 694, 695, 696, 697, 698] (by decide +kernel) (by decide +kernel)
set_option maxRecDepth 20000 in
theorem gL_law_X4_tell : GoodIn wsL_law (wsV RL 44 RX4 yX4_tell wsX4_tell) := goodIn_app (goodIn_of _ (by decide +kernel)) ggL_law_X4_tell
set_option maxRecDepth 20000 in
theorem ggL_law_X5_tell : GoodIn wsL_law wsX5_tell := goodIn_r _ [363, 57, 293, 294, 295, 5, 296, 244, 84, 85, 86, 352, 353, 354, 355, 666, 667, 668, 669, 670, 671, 672, 673, 674, 675, 676, 677, 678, 679, 680, 681, 682, 683, 684, 685] (by decide +kernel) (by decide +kernel)
set_option maxRecDepth 20000 in
theorem gL_law_X5_tell : GoodIn wsL_law (wsV RL 47 RX5 yX5_tell wsX5_tell) := goodIn_app (goodIn_of _ (by decide +kernel)) ggL_law_X5_tell
set_option maxRecDepth 20000 in
theorem ggL_law_X4_ill : GoodIn wsL_law wsX4_ill := goodIn_r _ [367, 19, 256, 257, 258, 259, 18, 260, 44, 660, 661, 662, 663, 664, 665, 688, 689, 690, 691, 692, 693, 694, 695, 696, 697, 698] (by decide +kernel) (by decide +kernel)
set_option maxRecDepth 20000 in
theorem gL_law_X4_ill : GoodIn wsL_law (wsV RL 48 RX4 yX4_ill wsX4_ill) := goodIn_app (goodIn_of _ (by decide +kernel)) ggL_law_X4_ill
set_option maxRecDepth 20000 in
theorem ggL_law_X5_ill : GoodIn wsL_law wsX5_ill := goodIn_r _ [371, 57, 293, 294, 295, 5, 296, 244, 84, 85, 86, 666, 667, 668, 669, 670, 671, 672, 673, 674, 675, 676, 677, 678, 679, 680, 681, 682, 683, 684, 685] (by decide +kernel) (by decide +kernel)
set_option maxRecDepth 20000 in
theorem gL_law_X5_ill : GoodIn wsL_law (wsV RL 52 RX5 yX5_ill wsX5_ill) := goodIn_app (goodIn_of _ (by decide +kernel)) ggL_law_X5_ill
set_option maxRecDepth 20000 in
theorem ggL_law_X4_slip : GoodIn wsL_law wsX4_slip := goodIn_r _ [375, 19, 254, 257, 258, 259, 18, 260, 44, 660, 661, 662, 663, 664, 665, 688, 689, 690, 691, 692, 693, 694, 695, 696, 697, 698] (by decide +kernel) (by decide +kernel)
set_option maxRecDepth 20000 in
theorem gL_law_X4_slip : GoodIn wsL_law (wsV RL 53 RX4 yX4_slip wsX4_slip) := goodIn_app (goodIn_of _ (by decide +kernel)) ggL_law_X4_slip
set_option maxRecDepth 20000 in
theorem ggL_law_X5_slip : GoodIn wsL_law wsX5_slip := goodIn_r _ [379, 380, 57, 293, 294, 295, 5, 296, 244, 84, 85, 86, 666, 667, 668, 669, 670, 671, 672, 673, 674, 675, 676, 677, 678, 679, 680, 681, 682, 683, 684, 685] (by decide +kernel) (by decide +kernel)
set_option maxRecDepth 20000 in
theorem gL_law_X5_slip : GoodIn wsL_law (wsV RL 56 RX5 yX5_slip wsX5_slip) := goodIn_app (goodIn_of _ (by decide +kernel)) ggL_law_X5_slip
set_option maxRecDepth 20000 in
theorem ggL_law_X4_thursday : GoodIn wsL_law wsX4_thursday := goodIn_r _ [384, 19, 385, 386, 387, 18, 388, 44, 389, 390, 391, 392, 38, 46, 47, 393, 394, 395, 396, 397, 398, 399, 400, 40, 401, 262, 263, 264, 36, 37, 265, 266, 267, 268, 660, 661, 662, 663, 664, 665, 688, 689, 690, 691, 692, 693, 694, 695, 696, 697, 698] (by decide +kernel) (by decide +kernel)
set_option maxRecDepth 20000 in
theorem gL_law_X4_thursday : GoodIn wsL_law (wsV RL 57 RX4 yX4_thursday wsX4_thursday) := goodIn_app (goodIn_of _ (by decide +kernel)) ggL_law_X4_thursday
set_option maxRecDepth 20000 in
theorem ggL_law_X5_thursday : GoodIn wsL_law wsX5_thursday := goodIn_r _ [405, 245, 246, 406, 407, 408, 5, 409, 244, 410, 411, 412, 413, 414, 57, 301, 302, 303, 304, 305, 306, 307, 308, 309, 310, 311, 312, 313, 314, 315, 666, 667, 668, 669, 670, 671, 672, 673, 674, 675, 676, 677, 678, 679, 680, 681, 682, 683, 684, 685] (by decide +kernel) (by decide +kernel)
set_option maxRecDepth 20000 in
theorem gL_law_X5_thursday : GoodIn wsL_law (wsV RL 60 RX5 yX5_thursday wsX5_thursday) := goodIn_app (goodIn_of _ (by decide +kernel)) ggL_law_X5_thursday
set_option maxRecDepth 20000 in
theorem ggL_law_X4_arrives : GoodIn wsL_law wsX4_arrives := goodIn_r _ [418, 19, 340, 341, 342, 2, 343, 257, 258, 259, 18, 260, 44, 344, 345, 346, 419, 420, 421, 422, 36, 37, 393, 394, 395, 396, 265, 266, 267, 268, 660, 661, 662, 663, 664, 665, 688, 689, 690, 691, 692, 693, 694, 695, 696, 697, 698] (by decide +kernel) (by decide +kernel)
set_option maxRecDepth 20000 in
theorem gL_law_X4_arrives : GoodIn wsL_law (wsV RL 61 RX4 yX4_arrives wsX4_arrives) := goodIn_app (goodIn_of _ (by decide +kernel)) ggL_law_X4_arrives
set_option maxRecDepth 20000 in
theorem ggL_law_X5_arrives : GoodIn wsL_law wsX5_arrives := goodIn_r _ [426, 293, 294, 295, 5, 296, 244, 84, 85, 86, 352, 353, 354, 355, 427, 428, 429, 430, 309, 310, 311, 312, 57, 313, 314, 315, 666, 667, 668, 669, 670, 671, 672, 673, 674, 675, 676, 677, 678, 679, 680, 681, 682, 683, 684, 685] (by decide +kernel) (by decide +kernel)
set_option maxRecDepth 20000 in
theorem gL_law_X5_arrives : GoodIn wsL_law (wsV RL 64 RX5 yX5_arrives wsX5_arrives) := goodIn_app (goodIn_of _ (by decide +kernel)) ggL_law_X5_arrives
set_option maxRecDepth 20000 in
theorem ggL_law_X4_from : GoodIn wsL_law wsX4_from := goodIn_r _ [434, 19, 340, 341, 342, 2, 343, 257, 258, 259, 18, 260, 44, 344, 345, 346, 435, 436, 437, 438, 439, 420, 421, 422, 36, 37, 393, 394, 395, 396, 265, 266, 267, 268, 660, 661, 662, 663, 664, 665, 688, 689, 690, 691, 692, 693, 694, 695, 696, 697, 698] (by decide +kernel) (by decide +kernel)
set_option maxRecDepth 20000 in
theorem gL_law_X4_from : GoodIn wsL_law (wsV RL 65 RX4 yX4_from wsX4_from) := goodIn_app (goodIn_of _ (by decide +kernel)) ggL_law_X4_from
set_option maxRecDepth 20000 in
theorem ggL_law_X5_from : GoodIn wsL_law wsX5_from := goodIn_r _ [443, 293, 294, 295, 5, 296, 244, 84, 85, 86, 352, 353, 354, 355, 444, 445, 446, 447, 427, 428, 429, 430, 309, 310, 311, 312, 57, 313, 314, 315, 666, 667, 668, 669, 670, 671, 672, 673, 674, 675, 676, 677, 678, 679, 680, 681, 682, 683, 684, 685] (by decide +kernel) (by decide +kernel)
set_option maxRecDepth 20000 in
theorem gL_law_X5_from : GoodIn wsL_law (wsV RL 68 RX5 yX5_from wsX5_from) := goodIn_app (goodIn_of _ (by decide +kernel)) ggL_law_X5_from
set_option maxRecDepth 20000 in
theorem ggL_law_X4_soon : GoodIn wsL_law wsX4_soon := goodIn_r _ [451, 19, 385, 386, 387, 18, 388, 44, 452, 453, 454, 455, 38, 40, 456, 393, 394, 395, 396, 660, 661, 662, 663, 664, 665, 688, 689, 690, 691, 692, 693, 694, 695, 696, 697, 698] (by decide +kernel) (by decide +kernel)
set_option maxRecDepth 20000 in
theorem gL_law_X4_soon : GoodIn wsL_law (wsV RL 69 RX4 yX4_soon wsX4_soon) := goodIn_app (goodIn_of _ (by decide +kernel)) ggL_law_X4_soon
set_option maxRecDepth 20000 in
theorem ggL_law_X5_soon : GoodIn wsL_law wsX5_soon := goodIn_r _ [460, 406, 407, 408, 5, 409, 244, 461, 462, 463, 464, 57, 305, 306, 307, 308, 666, 667, 668, 669, 670, 671, 672, 673, 674, 675, 676, 677, 678, 679, 680, 681, 682, 683, 684, 685] (by decide +kernel) (by decide +kernel)
set_option maxRecDepth 20000 in
theorem gL_law_X5_soon : GoodIn wsL_law (wsV RL 72 RX5 yX5_soon wsX5_soon) := goodIn_app (goodIn_of _ (by decide +kernel)) ggL_law_X5_soon
set_option maxRecDepth 20000 in
theorem ggL_law_X4_cure : GoodIn wsL_law wsX4_cure := goodIn_r _ [468, 19, 385, 386, 387, 18, 388, 44, 469, 470, 471, 472, 473, 474, 475, 476, 439, 420, 421, 422, 36, 37, 393, 394, 395, 396, 265, 266, 267, 268, 477, 660, 661, 662, 663, 664, 665, 688, 689, 690, 691, 692, 693, 694, 695, 696, 697, 698] (by decide +kernel) (by decide +kernel)
set_option maxRecDepth 20000 in
theorem gL_law_X4_cure : GoodIn wsL_law (wsV RL 73 RX4 yX4_cure wsX4_cure) := goodIn_app (goodIn_of _ (by decide +kernel)) ggL_law_X4_cure
set_option maxRecDepth 20000 in
theorem ggL_law_X5_cure : GoodIn wsL_law wsX5_cure := goodIn_r _ [481, 84, 85, 5, 86, 406, 407, 408, 409, 244, 482, 483, 484, 485, 57, 486, 487, 488, 489, 427, 428, 429, 430, 309, 310, 311, 312, 313, 314, 315, 666, 667, 668, 669, 670, 671, 672, 673, 674, 675, 676, 677, 678, 679, 680, 681, 682, 683, 684, 685] (by decide +kernel) (by decide +kernel)
set_option maxRecDepth 20000 in
theorem gL_law_X5_cure : GoodIn wsL_law (wsV RL 76 RX5 yX5_cure wsX5_cure) := goodIn_app (goodIn_of _ (by decide +kernel)) ggL_law_X5_cure
set_option maxRecDepth 20000 in
theorem ggL_law_X4_hear : GoodIn wsL_law wsX4_hear := goodIn_r _ [493, 19, 494, 340, 341, 342, 2, 343, 257, 258, 259, 18, 260, 44, 344, 345, 346, 495, 496, 497, 498, 45, 499, 500, 501, 502, 41, 42, 43, 503, 660, 661, 662, 663, 664, 665, 688, 689, 690, 691, 692, 693, 694, 695, 696, 697, 698] (by decide +kernel) (by decide +kernel)
set_option maxRecDepth 20000 in
theorem gL_law_X4_hear : GoodIn wsL_law (wsV RL 77 RX4 yX4_hear wsX4_hear) := goodIn_app (goodIn_of _ (by decide +kernel)) ggL_law_X4_hear
set_option maxRecDepth 20000 in
theorem ggL_law_X5_hear : GoodIn wsL_law wsX5_hear := goodIn_r _ [507, 247, 58, 293, 294, 295, 5, 296, 244, 84, 85, 86, 352, 353, 354, 355, 666, 667, 668, 669, 670, 671, 672, 673, 674, 675, 676, 677, 678, 679, 680, 681, 682, 683, 684, 685] (by decide +kernel) (by decide +kernel)
set_option maxRecDepth 20000 in
theorem gL_law_X5_hear : GoodIn wsL_law (wsV RL 81 RX5 yX5_hear wsX5_hear) := goodIn_app (goodIn_of _ (by decide +kernel)) ggL_law_X5_hear
set_option maxRecDepth 20000 in
theorem ggL_law_X4_forget : GoodIn wsL_law wsX4_forget := goodIn_r _ [511, 19, 494, 660, 661, 662, 663, 664, 665, 688, 689, 690, 691, 692, 693, 694, 695, 696, 697, 698] (by decide +kernel) (by decide +kernel)
set_option maxRecDepth 20000 in
theorem gL_law_X4_forget : GoodIn wsL_law (wsV RL 82 RX4 yX4_forget wsX4_forget) := goodIn_app (goodIn_of _ (by decide +kernel)) ggL_law_X4_forget
set_option maxRecDepth 20000 in
theorem ggL_law_X5_forget : GoodIn wsL_law wsX5_forget := goodIn_r _ [515, 247, 666, 667, 668, 669, 670, 671, 672, 673, 674, 675, 676, 677, 678, 679, 680, 681, 682, 683, 684, 685] (by decide +kernel) (by decide +kernel)
set_option maxRecDepth 20000 in
theorem gL_law_X5_forget : GoodIn wsL_law (wsV RL 85 RX5 yX5_forget wsX5_forget) := goodIn_app (goodIn_of _ (by decide +kernel)) ggL_law_X5_forget
set_option maxRecDepth 20000 in
theorem ggL_law_X4_terms : GoodIn wsL_law wsX4_terms := goodIn_r _ [519, 19, 21, 25, 520, 255, 385, 386, 387, 18, 388, 44, 521, 522, 523, 524, 45, 46, 47, 36, 525, 526, 527, 528, 37, 38, 40, 41, 42, 43, 529, 530, 531, 532, 533, 534, 535, 24, 536, 537, 51, 538, 539, 540, 541, 394, 395, 396, 542, 398, 399, 400, 401, 262, 263, 264, 265, 266, 267, 268, 389, 390, 391, 392, 393, 397, 660, 661, 662, 663, 664, 665, 699, 688, 689, 690, 691, 692, 693, 694, 695, 696, 697, 698] (by decide +kernel) (by decide +kernel)
set_option maxRecDepth 20000 in
theorem gL_law_X4_terms : GoodIn wsL_law (wsV RL 86 RX4 yX4_terms wsX4_terms) := goodIn_app (goodIn_of _ (by decide +kernel)) ggL_law_X4_terms
set_option maxRecDepth 20000 in
theorem ggL_law_X5_terms : GoodIn wsL_law wsX5_terms := goodIn_r _ [546, 547, 548, 57, 60, 549, 244, 414, 84, 85, 5, 86, 406, 407, 408, 409, 550, 551, 552, 553, 554, 555, 556, 557, 558, 559, 560, 410, 411, 412, 413, 301, 302, 303, 304, 305, 306, 307, 308, 309, 310, 311, 312, 313, 314, 315, 666, 667, 668, 669, 670, 671, 672, 673, 674, 675, 676, 677, 678, 679, 680, 681, 682, 683, 684, 685] (by decide +kernel) (by decide +kernel)
set_option maxRecDepth 20000 in
theorem gL_law_X5_terms : GoodIn wsL_law (wsV RL 89 RX5 yX5_terms wsX5_terms) := goodIn_app (goodIn_of _ (by decide +kernel)) ggL_law_X5_terms
set_option maxRecDepth 20000 in
theorem ggL_law_X4_image : GoodIn wsL_law wsX4_image := goodIn_r _ [564, 19, 20, 565, 385, 386, 387, 18, 388, 44, 521, 522, 523, 524, 45, 46, 47, 36, 525, 526, 527, 528, 37, 38, 40, 41, 42, 43, 660, 661, 662, 663, 664, 665, 688, 689, 690, 691, 692, 693, 694, 695, 696, 697, 698] (by decide +kernel) (by decide +kernel)
set_option maxRecDepth 20000 in
theorem gL_law_X4_image : GoodIn wsL_law (wsV RL 90 RX4 yX4_image wsX4_image) := goodIn_app (goodIn_of _ (by decide +kernel)) ggL_law_X4_image
set_option maxRecDepth 20000 in
theorem ggL_law_X5_image : GoodIn wsL_law wsX5_image := goodIn_r _ [569, 57, 61, 58, 62, 245, 570, 246, 571, 247, 572, 248, 63, 406, 407, 408, 5, 409, 244, 550, 551, 552, 666, 667, 668, 669, 670, 671, 672, 673, 674, 675, 676, 677, 678, 679, 680, 681, 682, 683, 684, 685] (by decide +kernel) (by decide +kernel)
set_option maxRecDepth 20000 in
theorem gL_law_X5_image : GoodIn wsL_law (wsV RL 93 RX5 yX5_image wsX5_image) := goodIn_app (goodIn_of _ (by decide +kernel)) ggL_law_X5_image
set_option maxRecDepth 20000 in
theorem ggL_law_X4_restore : GoodIn wsL_law wsX4_restore := goodIn_r _ [576, 20, 19, 565, 385, 386, 387, 18, 388, 44, 521, 522, 523, 524, 45, 46, 47, 36, 525, 526, 527, 528, 37, 38, 40, 41, 42, 43, 660, 661, 662, 663, 664, 665, 688, 689, 690, 691, 692, 693, 694, 695, 696, 697, 698] (by decide +kernel) (by decide +kernel)
set_option maxRecDepth 20000 in
theorem gL_law_X4_restore : GoodIn wsL_law (wsV RL 94 RX4 yX4_restore wsX4_restore) := goodIn_app (goodIn_of _ (by decide +kernel)) ggL_law_X4_restore
set_option maxRecDepth 20000 in
theorem ggL_law_X5_restore : GoodIn wsL_law wsX5_restore := goodIn_r _ [580, 63, 248, 61, 57, 62, 58, 570, 245, 571, 246, 572, 247, 550, 551, 5, 552, 666, 667, 668, 669, 670, 671, 672, 673, 674, 675, 676, 677, 678, 679, 680, 681, 682, 683, 684, 685] (by decide +kernel) (by decide +kernel)
set_option maxRecDepth 20000 in
theorem gL_law_X5_restore : GoodIn wsL_law (wsV RL 97 RX5 yX5_restore wsX5_restore) := goodIn_app (goodIn_of _ (by decide +kernel)) ggL_law_X5_restore
set_option maxRecDepth 20000 in
theorem ggL_law_X4_count : GoodIn wsL_law wsX4_count := goodIn_r _ [584, 19, 216, 565, 585, 494, 15, 68, 26, 586, 587, 588, 18, 589, 44, 38, 590, 591, 592, 593, 594, 595, 596, 597, 598, 599, 600, 601, 602, 603, 604, 40, 385, 386, 387, 388, 477, 474, 475, 476, 439, 420, 421, 422, 36, 37, 393, 394, 395, 396, 265, 266, 267, 268, 660, 661, 662, 663, 664, 665, 688, 689, 690, 691, 692, 693, 694, 695, 696, 697, 698, 686, 687] (by decide +kernel) (by decide +kernel)
set_option maxRecDepth 20000 in
theorem gL_law_X4_count : GoodIn wsL_law (wsV RL 98 RX4 yX4_count wsX4_count) := goodIn_app (goodIn_of _ (by decide +kernel)) ggL_law_X4_count
set_option maxRecDepth 20000 in
theorem ggL_law_X5_count : GoodIn wsL_law wsX5_count := goodIn_r _ [608, 609, 610, 611, 5, 612, 244, 245, 246, 247, 83, 248, 613, 614, 615, 616, 57, 617, 618, 619, 620, 621, 622, 623, 624, 486, 487, 488, 489, 406, 407, 408, 409, 427, 428, 429, 430, 309, 310, 311, 312, 313, 314, 315, 666, 667, 668, 669, 670, 671, 672, 673, 674, 675, 676, 677, 678, 679, 680, 681, 682, 683, 684, 685] (by decide +kernel) (by decide +kernel)
set_option maxRecDepth 20000 in
theorem gL_law_X5_count : GoodIn wsL_law (wsV RL 101 RX5 yX5_count wsX5_count) := goodIn_app (goodIn_of _ (by decide +kernel)) ggL_law_X5_count
set_option maxRecDepth 20000 in
theorem ggL_law_X4_digest : GoodIn wsL_law wsX4_digest := goodIn_r _ [628, 629, 19, 216, 15, 68, 630, 631, 632, 633, 2, 634, 635, 250, 251, 252, 253, 254, 255, 256, 257, 258, 259, 18, 260, 44, 261, 262, 263, 264, 38, 40, 36, 37, 265, 266, 267, 268, 269, 270, 271, 272, 273, 274, 275, 276, 45, 41, 42, 43, 277, 278, 279, 280, 281, 282, 283, 284, 285, 136, 137, 138, 286, 287, 288, 636, 637, 638, 639, 640, 416, 417, 418, 340, 341, 342, 343, 344, 345, 346, 419, 420, 421, 422, 393, 394, 395, 396, 641, 432, 433, 434, 435, 436, 437, 438, 439, 385, 386, 387, 388, 642, 449, 450, 451, 452, 453, 454, 455, 456, 643, 466, 467, 468, 469, 470, 471, 472, 473, 474, 475, 476, 477, 644, 582, 583, 584, 565, 585, 494, 26, 586, 587, 588, 589, 590, 591, 592, 593, 594, 595, 596, 597, 598, 599, 600, 601, 602, 603, 604, 660, 661, 662, 663, 664, 665, 688, 689, 690, 691, 692, 693, 694, 695, 696, 697, 698, 686, 687] (by decide +kernel) (by decide +kernel)
set_option maxRecDepth 20000 in
theorem gL_law_X4_digest : GoodIn wsL_law (wsV RL 102 RX4 yX4_digest wsX4_digest) := goodIn_app (goodIn_of _ (by decide +kernel)) ggL_law_X4_digest
set_option maxRecDepth 20000 in
theorem ggL_law_X5_digest : GoodIn wsL_law wsX5_digest := goodIn_r _ [648, 649, 650, 244, 83, 56, 651, 652, 653, 5, 654, 297, 298, 299, 300, 57, 301, 302, 303, 304, 305, 306, 307, 308, 309, 310, 311, 312, 313, 314, 315, 316, 317, 318, 319, 247, 58, 320, 321, 322, 323, 59, 655, 656, 657, 658, 659, 427, 428, 429, 430, 444, 445, 446, 447, 406, 407, 408, 409, 461, 462, 463, 464, 482, 483, 484, 485, 486, 487, 488, 489, 609, 610, 611, 612, 245, 246, 248, 613, 614, 615, 616, 617, 618, 619, 620, 621, 622, 623, 624, 666, 667, 668, 669, 670, 671, 672, 673, 674, 675, 676, 677, 678, 679, 680, 681, 682, 683, 684, 685] (by decide +kernel) (by decide +kernel)
set_option maxRecDepth 20000 in
theorem gL_law_X5_digest : GoodIn wsL_law (wsV RL 106 RX5 yX5_digest wsX5_digest) := goodIn_app (goodIn_of _ (by decide +kernel)) ggL_law_X5_digest
theorem dL_law_0 : decode cL_law 0 = .ok (.new 7, 3) := by decide +kernel
theorem dL_law_3 : decode cL_law 3 = .ok (.dup, 1) := by decide +kernel
theorem dL_law_4 : decode cL_law 4 = .ok (.invokespecial 9, 3) := by decide +kernel
theorem dL_law_7 : decode cL_law 7 = .ok (.astore_n 1, 1) := by decide +kernel
theorem dL_law_8 : decode cL_law 8 = .ok (.new 10, 3) := by decide +kernel
theorem dL_law_11 : decode cL_law 11 = .ok (.dup, 1) := by decide +kernel
theorem dL_law_12 : decode cL_law 12 = .ok (.invokespecial 12, 3) := by decide +kernel
theorem dL_law_15 : decode cL_law 15 = .ok (.astore_n 2, 1) := by decide +kernel
theorem dL_law_16 : decode cL_law 16 = .ok (.iconst 0, 1) := by decide +kernel
theorem dL_law_17 : decode cL_law 17 = .ok (.istore_n 3, 1) := by decide +kernel
theorem dL_law_18 : decode cL_law 18 = .ok (.iload_n 3, 1) := by decide +kernel
theorem dL_law_19 : decode cL_law 19 = .ok (.aload_n 0, 1) := by decide +kernel
theorem dL_law_20 : decode cL_law 20 = .ok (.arraylength, 1) := by decide +kernel
theorem dL_law_21 : decode cL_law 21 = .ok (.iconst 4, 1) := by decide +kernel
theorem dL_law_22 : decode cL_law 22 = .ok (.isub, 1) := by decide +kernel
theorem dL_law_23 : decode cL_law 23 = .ok (.if_icmp .gt 672, 3) := by decide +kernel
theorem dL_law_26 : decode cL_law 26 = .ok (.aload_n 0, 1) := by decide +kernel
theorem dL_law_27 : decode cL_law 27 = .ok (.iload_n 3, 1) := by decide +kernel
theorem dL_law_28 : decode cL_law 28 = .ok (.iaload, 1) := by decide +kernel
theorem dL_law_29 : decode cL_law 29 = .ok (.bipush 31, 2) := by decide +kernel
theorem dL_law_31 : decode cL_law 31 = .ok (.iand, 1) := by decide +kernel
theorem dL_law_32 : decode cL_law 32 = .ok (.tableswitch 657 0 21 #[104, 127, 140, 153, 166, 199, 232, 265, 298, 347, 380, 393, 426, 459, 472, 495, 538, 551, 594, 607, 620, 643], 104) := by decide +kernel
theorem dL_law_136 : decode cL_law 136 = .ok (.aload_n 1, 1) := by decide +kernel
theorem dL_law_137 : decode cL_law 137 = .ok (.aload_n 0, 1) := by decide +kernel
theorem dL_law_138 : decode cL_law 138 = .ok (.iload_n 3, 1) := by decide +kernel
theorem dL_law_139 : decode cL_law 139 = .ok (.iconst 1, 1) := by decide +kernel
theorem dL_law_140 : decode cL_law 140 = .ok (.iadd, 1) := by decide +kernel
theorem dL_law_141 : decode cL_law 141 = .ok (.iaload, 1) := by decide +kernel
theorem dL_law_142 : decode cL_law 142 = .ok (.invokevirtual 13, 3) := by decide +kernel
theorem dL_law_145 : decode cL_law 145 = .ok (.aload_n 2, 1) := by decide +kernel
theorem dL_law_146 : decode cL_law 146 = .ok (.aload_n 0, 1) := by decide +kernel
theorem dL_law_147 : decode cL_law 147 = .ok (.iload_n 3, 1) := by decide +kernel
theorem dL_law_148 : decode cL_law 148 = .ok (.iconst 1, 1) := by decide +kernel
theorem dL_law_149 : decode cL_law 149 = .ok (.iadd, 1) := by decide +kernel
theorem dL_law_150 : decode cL_law 150 = .ok (.iaload, 1) := by decide +kernel
theorem dL_law_151 : decode cL_law 151 = .ok (.invokevirtual 17, 3) := by decide +kernel
theorem dL_law_154 : decode cL_law 154 = .ok (.if_icmp .eq 535, 3) := by decide +kernel
theorem dL_law_157 : decode cL_law 157 = .ok (.iconst 0, 1) := by decide +kernel
theorem dL_law_158 : decode cL_law 158 = .ok (.ireturn, 1) := by decide +kernel
theorem dL_law_159 : decode cL_law 159 = .ok (.aload_n 1, 1) := by decide +kernel
theorem dL_law_160 : decode cL_law 160 = .ok (.invokevirtual 18, 3) := by decide +kernel
theorem dL_law_163 : decode cL_law 163 = .ok (.aload_n 2, 1) := by decide +kernel
theorem dL_law_164 : decode cL_law 164 = .ok (.invokevirtual 22, 3) := by decide +kernel
theorem dL_law_167 : decode cL_law 167 = .ok (.if_icmp .eq 522, 3) := by decide +kernel
theorem dL_law_170 : decode cL_law 170 = .ok (.iconst 0, 1) := by decide +kernel
theorem dL_law_171 : decode cL_law 171 = .ok (.ireturn, 1) := by decide +kernel
theorem dL_law_172 : decode cL_law 172 = .ok (.aload_n 1, 1) := by decide +kernel
theorem dL_law_173 : decode cL_law 173 = .ok (.invokevirtual 23, 3) := by decide +kernel
theorem dL_law_176 : decode cL_law 176 = .ok (.aload_n 2, 1) := by decide +kernel
theorem dL_law_177 : decode cL_law 177 = .ok (.invokevirtual 26, 3) := by decide +kernel
theorem dL_law_180 : decode cL_law 180 = .ok (.if_icmp .eq 509, 3) := by decide +kernel
theorem dL_law_183 : decode cL_law 183 = .ok (.iconst 0, 1) := by decide +kernel
theorem dL_law_184 : decode cL_law 184 = .ok (.ireturn, 1) := by decide +kernel
theorem dL_law_185 : decode cL_law 185 = .ok (.aload_n 1, 1) := by decide +kernel
theorem dL_law_186 : decode cL_law 186 = .ok (.invokevirtual 27, 3) := by decide +kernel
theorem dL_law_189 : decode cL_law 189 = .ok (.aload_n 2, 1) := by decide +kernel
theorem dL_law_190 : decode cL_law 190 = .ok (.invokevirtual 30, 3) := by decide +kernel
theorem dL_law_193 : decode cL_law 193 = .ok (.if_icmp .eq 496, 3) := by decide +kernel
theorem dL_law_196 : decode cL_law 196 = .ok (.iconst 0, 1) := by decide +kernel
theorem dL_law_197 : decode cL_law 197 = .ok (.ireturn, 1) := by decide +kernel
theorem dL_law_198 : decode cL_law 198 = .ok (.aload_n 1, 1) := by decide +kernel
theorem dL_law_199 : decode cL_law 199 = .ok (.aload_n 0, 1) := by decide +kernel
theorem dL_law_200 : decode cL_law 200 = .ok (.iload_n 3, 1) := by decide +kernel
theorem dL_law_201 : decode cL_law 201 = .ok (.iconst 1, 1) := by decide +kernel
theorem dL_law_202 : decode cL_law 202 = .ok (.iadd, 1) := by decide +kernel
theorem dL_law_203 : decode cL_law 203 = .ok (.iaload, 1) := by decide +kernel
theorem dL_law_204 : decode cL_law 204 = .ok (.aload_n 0, 1) := by decide +kernel
theorem dL_law_205 : decode cL_law 205 = .ok (.iload_n 3, 1) := by decide +kernel
theorem dL_law_206 : decode cL_law 206 = .ok (.iconst 2, 1) := by decide +kernel
theorem dL_law_207 : decode cL_law 207 = .ok (.iadd, 1) := by decide +kernel
theorem dL_law_208 : decode cL_law 208 = .ok (.iaload, 1) := by decide +kernel
theorem dL_law_209 : decode cL_law 209 = .ok (.invokevirtual 31, 3) := by decide +kernel
theorem dL_law_212 : decode cL_law 212 = .ok (.aload_n 2, 1) := by decide +kernel
theorem dL_law_213 : decode cL_law 213 = .ok (.aload_n 0, 1) := by decide +kernel
theorem dL_law_214 : decode cL_law 214 = .ok (.iload_n 3, 1) := by decide +kernel
theorem dL_law_215 : decode cL_law 215 = .ok (.iconst 1, 1) := by decide +kernel
theorem dL_law_216 : decode cL_law 216 = .ok (.iadd, 1) := by decide +kernel
theorem dL_law_217 : decode cL_law 217 = .ok (.iaload, 1) := by decide +kernel
theorem dL_law_218 : decode cL_law 218 = .ok (.aload_n 0, 1) := by decide +kernel
theorem dL_law_219 : decode cL_law 219 = .ok (.iload_n 3, 1) := by decide +kernel
theorem dL_law_220 : decode cL_law 220 = .ok (.iconst 2, 1) := by decide +kernel
theorem dL_law_221 : decode cL_law 221 = .ok (.iadd, 1) := by decide +kernel
theorem dL_law_222 : decode cL_law 222 = .ok (.iaload, 1) := by decide +kernel
theorem dL_law_223 : decode cL_law 223 = .ok (.invokevirtual 35, 3) := by decide +kernel
theorem dL_law_226 : decode cL_law 226 = .ok (.if_icmp .eq 463, 3) := by decide +kernel
theorem dL_law_229 : decode cL_law 229 = .ok (.iconst 0, 1) := by decide +kernel
theorem dL_law_230 : decode cL_law 230 = .ok (.ireturn, 1) := by decide +kernel
theorem dL_law_231 : decode cL_law 231 = .ok (.aload_n 1, 1) := by decide +kernel
theorem dL_law_232 : decode cL_law 232 = .ok (.aload_n 0, 1) := by decide +kernel
theorem dL_law_233 : decode cL_law 233 = .ok (.iload_n 3, 1) := by decide +kernel
theorem dL_law_234 : decode cL_law 234 = .ok (.iconst 1, 1) := by decide +kernel
theorem dL_law_235 : decode cL_law 235 = .ok (.iadd, 1) := by decide +kernel
theorem dL_law_236 : decode cL_law 236 = .ok (.iaload, 1) := by decide +kernel
theorem dL_law_237 : decode cL_law 237 = .ok (.aload_n 0, 1) := by decide +kernel
theorem dL_law_238 : decode cL_law 238 = .ok (.iload_n 3, 1) := by decide +kernel
theorem dL_law_239 : decode cL_law 239 = .ok (.iconst 2, 1) := by decide +kernel
theorem dL_law_240 : decode cL_law 240 = .ok (.iadd, 1) := by decide +kernel
theorem dL_law_241 : decode cL_law 241 = .ok (.iaload, 1) := by decide +kernel
theorem dL_law_242 : decode cL_law 242 = .ok (.invokevirtual 36, 3) := by decide +kernel
theorem dL_law_245 : decode cL_law 245 = .ok (.aload_n 2, 1) := by decide +kernel
theorem dL_law_246 : decode cL_law 246 = .ok (.aload_n 0, 1) := by decide +kernel
theorem dL_law_247 : decode cL_law 247 = .ok (.iload_n 3, 1) := by decide +kernel
theorem dL_law_248 : decode cL_law 248 = .ok (.iconst 1, 1) := by decide +kernel
theorem dL_law_249 : decode cL_law 249 = .ok (.iadd, 1) := by decide +kernel
theorem dL_law_250 : decode cL_law 250 = .ok (.iaload, 1) := by decide +kernel
theorem dL_law_251 : decode cL_law 251 = .ok (.aload_n 0, 1) := by decide +kernel
theorem dL_law_252 : decode cL_law 252 = .ok (.iload_n 3, 1) := by decide +kernel
theorem dL_law_253 : decode cL_law 253 = .ok (.iconst 2, 1) := by decide +kernel
theorem dL_law_254 : decode cL_law 254 = .ok (.iadd, 1) := by decide +kernel
theorem dL_law_255 : decode cL_law 255 = .ok (.iaload, 1) := by decide +kernel
theorem dL_law_256 : decode cL_law 256 = .ok (.invokevirtual 39, 3) := by decide +kernel
theorem dL_law_259 : decode cL_law 259 = .ok (.if_icmp .eq 430, 3) := by decide +kernel
theorem dL_law_262 : decode cL_law 262 = .ok (.iconst 0, 1) := by decide +kernel
theorem dL_law_263 : decode cL_law 263 = .ok (.ireturn, 1) := by decide +kernel
theorem dL_law_264 : decode cL_law 264 = .ok (.aload_n 1, 1) := by decide +kernel
theorem dL_law_265 : decode cL_law 265 = .ok (.aload_n 0, 1) := by decide +kernel
theorem dL_law_266 : decode cL_law 266 = .ok (.iload_n 3, 1) := by decide +kernel
theorem dL_law_267 : decode cL_law 267 = .ok (.iconst 1, 1) := by decide +kernel
theorem dL_law_268 : decode cL_law 268 = .ok (.iadd, 1) := by decide +kernel
theorem dL_law_269 : decode cL_law 269 = .ok (.iaload, 1) := by decide +kernel
theorem dL_law_270 : decode cL_law 270 = .ok (.aload_n 0, 1) := by decide +kernel
theorem dL_law_271 : decode cL_law 271 = .ok (.iload_n 3, 1) := by decide +kernel
theorem dL_law_272 : decode cL_law 272 = .ok (.iconst 2, 1) := by decide +kernel
theorem dL_law_273 : decode cL_law 273 = .ok (.iadd, 1) := by decide +kernel
theorem dL_law_274 : decode cL_law 274 = .ok (.iaload, 1) := by decide +kernel
theorem dL_law_275 : decode cL_law 275 = .ok (.invokevirtual 40, 3) := by decide +kernel
theorem dL_law_278 : decode cL_law 278 = .ok (.aload_n 2, 1) := by decide +kernel
theorem dL_law_279 : decode cL_law 279 = .ok (.aload_n 0, 1) := by decide +kernel
theorem dL_law_280 : decode cL_law 280 = .ok (.iload_n 3, 1) := by decide +kernel
theorem dL_law_281 : decode cL_law 281 = .ok (.iconst 1, 1) := by decide +kernel
theorem dL_law_282 : decode cL_law 282 = .ok (.iadd, 1) := by decide +kernel
theorem dL_law_283 : decode cL_law 283 = .ok (.iaload, 1) := by decide +kernel
theorem dL_law_284 : decode cL_law 284 = .ok (.aload_n 0, 1) := by decide +kernel
theorem dL_law_285 : decode cL_law 285 = .ok (.iload_n 3, 1) := by decide +kernel
theorem dL_law_286 : decode cL_law 286 = .ok (.iconst 2, 1) := by decide +kernel
theorem dL_law_287 : decode cL_law 287 = .ok (.iadd, 1) := by decide +kernel
theorem dL_law_288 : decode cL_law 288 = .ok (.iaload, 1) := by decide +kernel
theorem dL_law_289 : decode cL_law 289 = .ok (.invokevirtual 43, 3) := by decide +kernel
theorem dL_law_292 : decode cL_law 292 = .ok (.if_icmp .eq 397, 3) := by decide +kernel
theorem dL_law_295 : decode cL_law 295 = .ok (.iconst 0, 1) := by decide +kernel
theorem dL_law_296 : decode cL_law 296 = .ok (.ireturn, 1) := by decide +kernel
theorem dL_law_297 : decode cL_law 297 = .ok (.aload_n 1, 1) := by decide +kernel
theorem dL_law_298 : decode cL_law 298 = .ok (.aload_n 0, 1) := by decide +kernel
theorem dL_law_299 : decode cL_law 299 = .ok (.iload_n 3, 1) := by decide +kernel
theorem dL_law_300 : decode cL_law 300 = .ok (.iconst 1, 1) := by decide +kernel
theorem dL_law_301 : decode cL_law 301 = .ok (.iadd, 1) := by decide +kernel
theorem dL_law_302 : decode cL_law 302 = .ok (.iaload, 1) := by decide +kernel
theorem dL_law_303 : decode cL_law 303 = .ok (.aload_n 0, 1) := by decide +kernel
theorem dL_law_304 : decode cL_law 304 = .ok (.iload_n 3, 1) := by decide +kernel
theorem dL_law_305 : decode cL_law 305 = .ok (.iconst 2, 1) := by decide +kernel
theorem dL_law_306 : decode cL_law 306 = .ok (.iadd, 1) := by decide +kernel
theorem dL_law_307 : decode cL_law 307 = .ok (.iaload, 1) := by decide +kernel
theorem dL_law_308 : decode cL_law 308 = .ok (.invokevirtual 44, 3) := by decide +kernel
theorem dL_law_311 : decode cL_law 311 = .ok (.aload_n 2, 1) := by decide +kernel
theorem dL_law_312 : decode cL_law 312 = .ok (.aload_n 0, 1) := by decide +kernel
theorem dL_law_313 : decode cL_law 313 = .ok (.iload_n 3, 1) := by decide +kernel
theorem dL_law_314 : decode cL_law 314 = .ok (.iconst 1, 1) := by decide +kernel
theorem dL_law_315 : decode cL_law 315 = .ok (.iadd, 1) := by decide +kernel
theorem dL_law_316 : decode cL_law 316 = .ok (.iaload, 1) := by decide +kernel
theorem dL_law_317 : decode cL_law 317 = .ok (.aload_n 0, 1) := by decide +kernel
theorem dL_law_318 : decode cL_law 318 = .ok (.iload_n 3, 1) := by decide +kernel
theorem dL_law_319 : decode cL_law 319 = .ok (.iconst 2, 1) := by decide +kernel
theorem dL_law_320 : decode cL_law 320 = .ok (.iadd, 1) := by decide +kernel
theorem dL_law_321 : decode cL_law 321 = .ok (.iaload, 1) := by decide +kernel
theorem dL_law_322 : decode cL_law 322 = .ok (.invokevirtual 47, 3) := by decide +kernel
theorem dL_law_325 : decode cL_law 325 = .ok (.if_icmp .eq 364, 3) := by decide +kernel
theorem dL_law_328 : decode cL_law 328 = .ok (.iconst 0, 1) := by decide +kernel
theorem dL_law_329 : decode cL_law 329 = .ok (.ireturn, 1) := by decide +kernel
theorem dL_law_330 : decode cL_law 330 = .ok (.aload_n 1, 1) := by decide +kernel
theorem dL_law_331 : decode cL_law 331 = .ok (.aload_n 0, 1) := by decide +kernel
theorem dL_law_332 : decode cL_law 332 = .ok (.iload_n 3, 1) := by decide +kernel
theorem dL_law_333 : decode cL_law 333 = .ok (.iconst 1, 1) := by decide +kernel
theorem dL_law_334 : decode cL_law 334 = .ok (.iadd, 1) := by decide +kernel
theorem dL_law_335 : decode cL_law 335 = .ok (.iaload, 1) := by decide +kernel
theorem dL_law_336 : decode cL_law 336 = .ok (.aload_n 0, 1) := by decide +kernel
theorem dL_law_337 : decode cL_law 337 = .ok (.iload_n 3, 1) := by decide +kernel
theorem dL_law_338 : decode cL_law 338 = .ok (.iconst 2, 1) := by decide +kernel
theorem dL_law_339 : decode cL_law 339 = .ok (.iadd, 1) := by decide +kernel
theorem dL_law_340 : decode cL_law 340 = .ok (.iaload, 1) := by decide +kernel
theorem dL_law_341 : decode cL_law 341 = .ok (.ifCond .eq 7, 3) := by decide +kernel
theorem dL_law_344 : decode cL_law 344 = .ok (.iconst 1, 1) := by decide +kernel
theorem dL_law_345 : decode cL_law 345 = .ok (.goto 4, 3) := by decide +kernel
theorem dL_law_348 : decode cL_law 348 = .ok (.iconst 0, 1) := by decide +kernel
theorem dL_law_349 : decode cL_law 349 = .ok (.invokevirtual 48, 3) := by decide +kernel
theorem dL_law_352 : decode cL_law 352 = .ok (.aload_n 2, 1) := by decide +kernel
theorem dL_law_353 : decode cL_law 353 = .ok (.aload_n 0, 1) := by decide +kernel
theorem dL_law_354 : decode cL_law 354 = .ok (.iload_n 3, 1) := by decide +kernel
theorem dL_law_355 : decode cL_law 355 = .ok (.iconst 1, 1) := by decide +kernel
theorem dL_law_356 : decode cL_law 356 = .ok (.iadd, 1) := by decide +kernel
theorem dL_law_357 : decode cL_law 357 = .ok (.iaload, 1) := by decide +kernel
theorem dL_law_358 : decode cL_law 358 = .ok (.aload_n 0, 1) := by decide +kernel
theorem dL_law_359 : decode cL_law 359 = .ok (.iload_n 3, 1) := by decide +kernel
theorem dL_law_360 : decode cL_law 360 = .ok (.iconst 2, 1) := by decide +kernel
theorem dL_law_361 : decode cL_law 361 = .ok (.iadd, 1) := by decide +kernel
theorem dL_law_362 : decode cL_law 362 = .ok (.iaload, 1) := by decide +kernel
theorem dL_law_363 : decode cL_law 363 = .ok (.ifCond .eq 7, 3) := by decide +kernel
theorem dL_law_366 : decode cL_law 366 = .ok (.iconst 1, 1) := by decide +kernel
theorem dL_law_367 : decode cL_law 367 = .ok (.goto 4, 3) := by decide +kernel
theorem dL_law_370 : decode cL_law 370 = .ok (.iconst 0, 1) := by decide +kernel
theorem dL_law_371 : decode cL_law 371 = .ok (.invokevirtual 52, 3) := by decide +kernel
theorem dL_law_374 : decode cL_law 374 = .ok (.if_icmp .eq 315, 3) := by decide +kernel
theorem dL_law_377 : decode cL_law 377 = .ok (.iconst 0, 1) := by decide +kernel
theorem dL_law_378 : decode cL_law 378 = .ok (.ireturn, 1) := by decide +kernel
theorem dL_law_379 : decode cL_law 379 = .ok (.aload_n 1, 1) := by decide +kernel
theorem dL_law_380 : decode cL_law 380 = .ok (.aload_n 0, 1) := by decide +kernel
theorem dL_law_381 : decode cL_law 381 = .ok (.iload_n 3, 1) := by decide +kernel
theorem dL_law_382 : decode cL_law 382 = .ok (.iconst 1, 1) := by decide +kernel
theorem dL_law_383 : decode cL_law 383 = .ok (.iadd, 1) := by decide +kernel
theorem dL_law_384 : decode cL_law 384 = .ok (.iaload, 1) := by decide +kernel
theorem dL_law_385 : decode cL_law 385 = .ok (.aload_n 0, 1) := by decide +kernel
theorem dL_law_386 : decode cL_law 386 = .ok (.iload_n 3, 1) := by decide +kernel
theorem dL_law_387 : decode cL_law 387 = .ok (.iconst 2, 1) := by decide +kernel
theorem dL_law_388 : decode cL_law 388 = .ok (.iadd, 1) := by decide +kernel
theorem dL_law_389 : decode cL_law 389 = .ok (.iaload, 1) := by decide +kernel
theorem dL_law_390 : decode cL_law 390 = .ok (.invokevirtual 53, 3) := by decide +kernel
theorem dL_law_393 : decode cL_law 393 = .ok (.aload_n 2, 1) := by decide +kernel
theorem dL_law_394 : decode cL_law 394 = .ok (.aload_n 0, 1) := by decide +kernel
theorem dL_law_395 : decode cL_law 395 = .ok (.iload_n 3, 1) := by decide +kernel
theorem dL_law_396 : decode cL_law 396 = .ok (.iconst 1, 1) := by decide +kernel
theorem dL_law_397 : decode cL_law 397 = .ok (.iadd, 1) := by decide +kernel
theorem dL_law_398 : decode cL_law 398 = .ok (.iaload, 1) := by decide +kernel
theorem dL_law_399 : decode cL_law 399 = .ok (.aload_n 0, 1) := by decide +kernel
theorem dL_law_400 : decode cL_law 400 = .ok (.iload_n 3, 1) := by decide +kernel
theorem dL_law_401 : decode cL_law 401 = .ok (.iconst 2, 1) := by decide +kernel
theorem dL_law_402 : decode cL_law 402 = .ok (.iadd, 1) := by decide +kernel
theorem dL_law_403 : decode cL_law 403 = .ok (.iaload, 1) := by decide +kernel
theorem dL_law_404 : decode cL_law 404 = .ok (.invokevirtual 56, 3) := by decide +kernel
theorem dL_law_407 : decode cL_law 407 = .ok (.if_icmp .eq 282, 3) := by decide +kernel
theorem dL_law_410 : decode cL_law 410 = .ok (.iconst 0, 1) := by decide +kernel
theorem dL_law_411 : decode cL_law 411 = .ok (.ireturn, 1) := by decide +kernel
theorem dL_law_412 : decode cL_law 412 = .ok (.aload_n 1, 1) := by decide +kernel
theorem dL_law_413 : decode cL_law 413 = .ok (.invokevirtual 57, 3) := by decide +kernel
theorem dL_law_416 : decode cL_law 416 = .ok (.aload_n 2, 1) := by decide +kernel
theorem dL_law_417 : decode cL_law 417 = .ok (.invokevirtual 60, 3) := by decide +kernel
theorem dL_law_420 : decode cL_law 420 = .ok (.if_icmp .eq 269, 3) := by decide +kernel
theorem dL_law_423 : decode cL_law 423 = .ok (.iconst 0, 1) := by decide +kernel
theorem dL_law_424 : decode cL_law 424 = .ok (.ireturn, 1) := by decide +kernel
theorem dL_law_425 : decode cL_law 425 = .ok (.aload_n 1, 1) := by decide +kernel
theorem dL_law_426 : decode cL_law 426 = .ok (.aload_n 0, 1) := by decide +kernel
theorem dL_law_427 : decode cL_law 427 = .ok (.iload_n 3, 1) := by decide +kernel
theorem dL_law_428 : decode cL_law 428 = .ok (.iconst 1, 1) := by decide +kernel
theorem dL_law_429 : decode cL_law 429 = .ok (.iadd, 1) := by decide +kernel
theorem dL_law_430 : decode cL_law 430 = .ok (.iaload, 1) := by decide +kernel
theorem dL_law_431 : decode cL_law 431 = .ok (.aload_n 0, 1) := by decide +kernel
theorem dL_law_432 : decode cL_law 432 = .ok (.iload_n 3, 1) := by decide +kernel
theorem dL_law_433 : decode cL_law 433 = .ok (.iconst 2, 1) := by decide +kernel
theorem dL_law_434 : decode cL_law 434 = .ok (.iadd, 1) := by decide +kernel
theorem dL_law_435 : decode cL_law 435 = .ok (.iaload, 1) := by decide +kernel
theorem dL_law_436 : decode cL_law 436 = .ok (.invokevirtual 61, 3) := by decide +kernel
theorem dL_law_439 : decode cL_law 439 = .ok (.aload_n 2, 1) := by decide +kernel
theorem dL_law_440 : decode cL_law 440 = .ok (.aload_n 0, 1) := by decide +kernel
theorem dL_law_441 : decode cL_law 441 = .ok (.iload_n 3, 1) := by decide +kernel
theorem dL_law_442 : decode cL_law 442 = .ok (.iconst 1, 1) := by decide +kernel
theorem dL_law_443 : decode cL_law 443 = .ok (.iadd, 1) := by decide +kernel
theorem dL_law_444 : decode cL_law 444 = .ok (.iaload, 1) := by decide +kernel
theorem dL_law_445 : decode cL_law 445 = .ok (.aload_n 0, 1) := by decide +kernel
theorem dL_law_446 : decode cL_law 446 = .ok (.iload_n 3, 1) := by decide +kernel
theorem dL_law_447 : decode cL_law 447 = .ok (.iconst 2, 1) := by decide +kernel
theorem dL_law_448 : decode cL_law 448 = .ok (.iadd, 1) := by decide +kernel
theorem dL_law_449 : decode cL_law 449 = .ok (.iaload, 1) := by decide +kernel
theorem dL_law_450 : decode cL_law 450 = .ok (.invokevirtual 64, 3) := by decide +kernel
theorem dL_law_453 : decode cL_law 453 = .ok (.if_icmp .eq 236, 3) := by decide +kernel
theorem dL_law_456 : decode cL_law 456 = .ok (.iconst 0, 1) := by decide +kernel
theorem dL_law_457 : decode cL_law 457 = .ok (.ireturn, 1) := by decide +kernel
theorem dL_law_458 : decode cL_law 458 = .ok (.aload_n 1, 1) := by decide +kernel
theorem dL_law_459 : decode cL_law 459 = .ok (.aload_n 0, 1) := by decide +kernel
theorem dL_law_460 : decode cL_law 460 = .ok (.iload_n 3, 1) := by decide +kernel
theorem dL_law_461 : decode cL_law 461 = .ok (.iconst 1, 1) := by decide +kernel
theorem dL_law_462 : decode cL_law 462 = .ok (.iadd, 1) := by decide +kernel
theorem dL_law_463 : decode cL_law 463 = .ok (.iaload, 1) := by decide +kernel
theorem dL_law_464 : decode cL_law 464 = .ok (.aload_n 0, 1) := by decide +kernel
theorem dL_law_465 : decode cL_law 465 = .ok (.iload_n 3, 1) := by decide +kernel
theorem dL_law_466 : decode cL_law 466 = .ok (.iconst 2, 1) := by decide +kernel
theorem dL_law_467 : decode cL_law 467 = .ok (.iadd, 1) := by decide +kernel
theorem dL_law_468 : decode cL_law 468 = .ok (.iaload, 1) := by decide +kernel
theorem dL_law_469 : decode cL_law 469 = .ok (.invokevirtual 65, 3) := by decide +kernel
theorem dL_law_472 : decode cL_law 472 = .ok (.aload_n 2, 1) := by decide +kernel
theorem dL_law_473 : decode cL_law 473 = .ok (.aload_n 0, 1) := by decide +kernel
theorem dL_law_474 : decode cL_law 474 = .ok (.iload_n 3, 1) := by decide +kernel
theorem dL_law_475 : decode cL_law 475 = .ok (.iconst 1, 1) := by decide +kernel
theorem dL_law_476 : decode cL_law 476 = .ok (.iadd, 1) := by decide +kernel
theorem dL_law_477 : decode cL_law 477 = .ok (.iaload, 1) := by decide +kernel
theorem dL_law_478 : decode cL_law 478 = .ok (.aload_n 0, 1) := by decide +kernel
theorem dL_law_479 : decode cL_law 479 = .ok (.iload_n 3, 1) := by decide +kernel
theorem dL_law_480 : decode cL_law 480 = .ok (.iconst 2, 1) := by decide +kernel
theorem dL_law_481 : decode cL_law 481 = .ok (.iadd, 1) := by decide +kernel
theorem dL_law_482 : decode cL_law 482 = .ok (.iaload, 1) := by decide +kernel
theorem dL_law_483 : decode cL_law 483 = .ok (.invokevirtual 68, 3) := by decide +kernel
theorem dL_law_486 : decode cL_law 486 = .ok (.if_icmp .eq 203, 3) := by decide +kernel
theorem dL_law_489 : decode cL_law 489 = .ok (.iconst 0, 1) := by decide +kernel
theorem dL_law_490 : decode cL_law 490 = .ok (.ireturn, 1) := by decide +kernel
theorem dL_law_491 : decode cL_law 491 = .ok (.aload_n 1, 1) := by decide +kernel
theorem dL_law_492 : decode cL_law 492 = .ok (.invokevirtual 69, 3) := by decide +kernel
theorem dL_law_495 : decode cL_law 495 = .ok (.aload_n 2, 1) := by decide +kernel
theorem dL_law_496 : decode cL_law 496 = .ok (.invokevirtual 72, 3) := by decide +kernel
theorem dL_law_499 : decode cL_law 499 = .ok (.if_icmp .eq 190, 3) := by decide +kernel
theorem dL_law_502 : decode cL_law 502 = .ok (.iconst 0, 1) := by decide +kernel
theorem dL_law_503 : decode cL_law 503 = .ok (.ireturn, 1) := by decide +kernel
theorem dL_law_504 : decode cL_law 504 = .ok (.aload_n 1, 1) := by decide +kernel
theorem dL_law_505 : decode cL_law 505 = .ok (.aload_n 0, 1) := by decide +kernel
theorem dL_law_506 : decode cL_law 506 = .ok (.iload_n 3, 1) := by decide +kernel
theorem dL_law_507 : decode cL_law 507 = .ok (.iconst 1, 1) := by decide +kernel
theorem dL_law_508 : decode cL_law 508 = .ok (.iadd, 1) := by decide +kernel
theorem dL_law_509 : decode cL_law 509 = .ok (.iaload, 1) := by decide +kernel
theorem dL_law_510 : decode cL_law 510 = .ok (.invokevirtual 73, 3) := by decide +kernel
theorem dL_law_513 : decode cL_law 513 = .ok (.aload_n 2, 1) := by decide +kernel
theorem dL_law_514 : decode cL_law 514 = .ok (.aload_n 0, 1) := by decide +kernel
theorem dL_law_515 : decode cL_law 515 = .ok (.iload_n 3, 1) := by decide +kernel
theorem dL_law_516 : decode cL_law 516 = .ok (.iconst 1, 1) := by decide +kernel
theorem dL_law_517 : decode cL_law 517 = .ok (.iadd, 1) := by decide +kernel
theorem dL_law_518 : decode cL_law 518 = .ok (.iaload, 1) := by decide +kernel
theorem dL_law_519 : decode cL_law 519 = .ok (.invokevirtual 76, 3) := by decide +kernel
theorem dL_law_522 : decode cL_law 522 = .ok (.if_icmp .eq 167, 3) := by decide +kernel
theorem dL_law_525 : decode cL_law 525 = .ok (.iconst 0, 1) := by decide +kernel
theorem dL_law_526 : decode cL_law 526 = .ok (.ireturn, 1) := by decide +kernel
theorem dL_law_527 : decode cL_law 527 = .ok (.aload_n 1, 1) := by decide +kernel
theorem dL_law_528 : decode cL_law 528 = .ok (.aload_n 0, 1) := by decide +kernel
theorem dL_law_529 : decode cL_law 529 = .ok (.iload_n 3, 1) := by decide +kernel
theorem dL_law_530 : decode cL_law 530 = .ok (.iconst 1, 1) := by decide +kernel
theorem dL_law_531 : decode cL_law 531 = .ok (.iadd, 1) := by decide +kernel
theorem dL_law_532 : decode cL_law 532 = .ok (.iaload, 1) := by decide +kernel
theorem dL_law_533 : decode cL_law 533 = .ok (.aload_n 0, 1) := by decide +kernel
theorem dL_law_534 : decode cL_law 534 = .ok (.iload_n 3, 1) := by decide +kernel
theorem dL_law_535 : decode cL_law 535 = .ok (.iconst 2, 1) := by decide +kernel
theorem dL_law_536 : decode cL_law 536 = .ok (.iadd, 1) := by decide +kernel
theorem dL_law_537 : decode cL_law 537 = .ok (.iaload, 1) := by decide +kernel
theorem dL_law_538 : decode cL_law 538 = .ok (.aload_n 0, 1) := by decide +kernel
theorem dL_law_539 : decode cL_law 539 = .ok (.iload_n 3, 1) := by decide +kernel
theorem dL_law_540 : decode cL_law 540 = .ok (.iconst 3, 1) := by decide +kernel
theorem dL_law_541 : decode cL_law 541 = .ok (.iadd, 1) := by decide +kernel
theorem dL_law_542 : decode cL_law 542 = .ok (.iaload, 1) := by decide +kernel
theorem dL_law_543 : decode cL_law 543 = .ok (.invokevirtual 77, 3) := by decide +kernel
theorem dL_law_546 : decode cL_law 546 = .ok (.aload_n 2, 1) := by decide +kernel
theorem dL_law_547 : decode cL_law 547 = .ok (.aload_n 0, 1) := by decide +kernel
theorem dL_law_548 : decode cL_law 548 = .ok (.iload_n 3, 1) := by decide +kernel
theorem dL_law_549 : decode cL_law 549 = .ok (.iconst 1, 1) := by decide +kernel
theorem dL_law_550 : decode cL_law 550 = .ok (.iadd, 1) := by decide +kernel
theorem dL_law_551 : decode cL_law 551 = .ok (.iaload, 1) := by decide +kernel
theorem dL_law_552 : decode cL_law 552 = .ok (.aload_n 0, 1) := by decide +kernel
theorem dL_law_553 : decode cL_law 553 = .ok (.iload_n 3, 1) := by decide +kernel
theorem dL_law_554 : decode cL_law 554 = .ok (.iconst 2, 1) := by decide +kernel
theorem dL_law_555 : decode cL_law 555 = .ok (.iadd, 1) := by decide +kernel
theorem dL_law_556 : decode cL_law 556 = .ok (.iaload, 1) := by decide +kernel
theorem dL_law_557 : decode cL_law 557 = .ok (.aload_n 0, 1) := by decide +kernel
theorem dL_law_558 : decode cL_law 558 = .ok (.iload_n 3, 1) := by decide +kernel
theorem dL_law_559 : decode cL_law 559 = .ok (.iconst 3, 1) := by decide +kernel
theorem dL_law_560 : decode cL_law 560 = .ok (.iadd, 1) := by decide +kernel
theorem dL_law_561 : decode cL_law 561 = .ok (.iaload, 1) := by decide +kernel
theorem dL_law_562 : decode cL_law 562 = .ok (.invokevirtual 81, 3) := by decide +kernel
theorem dL_law_565 : decode cL_law 565 = .ok (.if_icmp .eq 124, 3) := by decide +kernel
theorem dL_law_568 : decode cL_law 568 = .ok (.iconst 0, 1) := by decide +kernel
theorem dL_law_569 : decode cL_law 569 = .ok (.ireturn, 1) := by decide +kernel
theorem dL_law_570 : decode cL_law 570 = .ok (.aload_n 1, 1) := by decide +kernel
theorem dL_law_571 : decode cL_law 571 = .ok (.invokevirtual 82, 3) := by decide +kernel
theorem dL_law_574 : decode cL_law 574 = .ok (.aload_n 2, 1) := by decide +kernel
theorem dL_law_575 : decode cL_law 575 = .ok (.invokevirtual 85, 3) := by decide +kernel
theorem dL_law_578 : decode cL_law 578 = .ok (.if_icmp .eq 111, 3) := by decide +kernel
theorem dL_law_581 : decode cL_law 581 = .ok (.iconst 0, 1) := by decide +kernel
theorem dL_law_582 : decode cL_law 582 = .ok (.ireturn, 1) := by decide +kernel
theorem dL_law_583 : decode cL_law 583 = .ok (.aload_n 1, 1) := by decide +kernel
theorem dL_law_584 : decode cL_law 584 = .ok (.aload_n 0, 1) := by decide +kernel
theorem dL_law_585 : decode cL_law 585 = .ok (.iload_n 3, 1) := by decide +kernel
theorem dL_law_586 : decode cL_law 586 = .ok (.iconst 1, 1) := by decide +kernel
theorem dL_law_587 : decode cL_law 587 = .ok (.iadd, 1) := by decide +kernel
theorem dL_law_588 : decode cL_law 588 = .ok (.iaload, 1) := by decide +kernel
theorem dL_law_589 : decode cL_law 589 = .ok (.aload_n 0, 1) := by decide +kernel
theorem dL_law_590 : decode cL_law 590 = .ok (.iload_n 3, 1) := by decide +kernel
theorem dL_law_591 : decode cL_law 591 = .ok (.iconst 2, 1) := by decide +kernel
theorem dL_law_592 : decode cL_law 592 = .ok (.iadd, 1) := by decide +kernel
theorem dL_law_593 : decode cL_law 593 = .ok (.iaload, 1) := by decide +kernel
theorem dL_law_594 : decode cL_law 594 = .ok (.aload_n 0, 1) := by decide +kernel
theorem dL_law_595 : decode cL_law 595 = .ok (.iload_n 3, 1) := by decide +kernel
theorem dL_law_596 : decode cL_law 596 = .ok (.iconst 3, 1) := by decide +kernel
theorem dL_law_597 : decode cL_law 597 = .ok (.iadd, 1) := by decide +kernel
theorem dL_law_598 : decode cL_law 598 = .ok (.iaload, 1) := by decide +kernel
theorem dL_law_599 : decode cL_law 599 = .ok (.invokevirtual 86, 3) := by decide +kernel
theorem dL_law_602 : decode cL_law 602 = .ok (.aload_n 2, 1) := by decide +kernel
theorem dL_law_603 : decode cL_law 603 = .ok (.aload_n 0, 1) := by decide +kernel
theorem dL_law_604 : decode cL_law 604 = .ok (.iload_n 3, 1) := by decide +kernel
theorem dL_law_605 : decode cL_law 605 = .ok (.iconst 1, 1) := by decide +kernel
theorem dL_law_606 : decode cL_law 606 = .ok (.iadd, 1) := by decide +kernel
theorem dL_law_607 : decode cL_law 607 = .ok (.iaload, 1) := by decide +kernel
theorem dL_law_608 : decode cL_law 608 = .ok (.aload_n 0, 1) := by decide +kernel
theorem dL_law_609 : decode cL_law 609 = .ok (.iload_n 3, 1) := by decide +kernel
theorem dL_law_610 : decode cL_law 610 = .ok (.iconst 2, 1) := by decide +kernel
theorem dL_law_611 : decode cL_law 611 = .ok (.iadd, 1) := by decide +kernel
theorem dL_law_612 : decode cL_law 612 = .ok (.iaload, 1) := by decide +kernel
theorem dL_law_613 : decode cL_law 613 = .ok (.aload_n 0, 1) := by decide +kernel
theorem dL_law_614 : decode cL_law 614 = .ok (.iload_n 3, 1) := by decide +kernel
theorem dL_law_615 : decode cL_law 615 = .ok (.iconst 3, 1) := by decide +kernel
theorem dL_law_616 : decode cL_law 616 = .ok (.iadd, 1) := by decide +kernel
theorem dL_law_617 : decode cL_law 617 = .ok (.iaload, 1) := by decide +kernel
theorem dL_law_618 : decode cL_law 618 = .ok (.invokevirtual 89, 3) := by decide +kernel
theorem dL_law_621 : decode cL_law 621 = .ok (.if_icmp .eq 68, 3) := by decide +kernel
theorem dL_law_624 : decode cL_law 624 = .ok (.iconst 0, 1) := by decide +kernel
theorem dL_law_625 : decode cL_law 625 = .ok (.ireturn, 1) := by decide +kernel
theorem dL_law_626 : decode cL_law 626 = .ok (.aload_n 1, 1) := by decide +kernel
theorem dL_law_627 : decode cL_law 627 = .ok (.invokevirtual 90, 3) := by decide +kernel
theorem dL_law_630 : decode cL_law 630 = .ok (.aload_n 2, 1) := by decide +kernel
theorem dL_law_631 : decode cL_law 631 = .ok (.invokevirtual 93, 3) := by decide +kernel
theorem dL_law_634 : decode cL_law 634 = .ok (.if_icmp .eq 55, 3) := by decide +kernel
theorem dL_law_637 : decode cL_law 637 = .ok (.iconst 0, 1) := by decide +kernel
theorem dL_law_638 : decode cL_law 638 = .ok (.ireturn, 1) := by decide +kernel
theorem dL_law_639 : decode cL_law 639 = .ok (.aload_n 1, 1) := by decide +kernel
theorem dL_law_640 : decode cL_law 640 = .ok (.invokevirtual 94, 3) := by decide +kernel
theorem dL_law_643 : decode cL_law 643 = .ok (.aload_n 2, 1) := by decide +kernel
theorem dL_law_644 : decode cL_law 644 = .ok (.invokevirtual 97, 3) := by decide +kernel
theorem dL_law_647 : decode cL_law 647 = .ok (.if_icmp .eq 42, 3) := by decide +kernel
theorem dL_law_650 : decode cL_law 650 = .ok (.iconst 0, 1) := by decide +kernel
theorem dL_law_651 : decode cL_law 651 = .ok (.ireturn, 1) := by decide +kernel
theorem dL_law_652 : decode cL_law 652 = .ok (.aload_n 1, 1) := by decide +kernel
theorem dL_law_653 : decode cL_law 653 = .ok (.aload_n 0, 1) := by decide +kernel
theorem dL_law_654 : decode cL_law 654 = .ok (.iload_n 3, 1) := by decide +kernel
theorem dL_law_655 : decode cL_law 655 = .ok (.iconst 1, 1) := by decide +kernel
theorem dL_law_656 : decode cL_law 656 = .ok (.iadd, 1) := by decide +kernel
theorem dL_law_657 : decode cL_law 657 = .ok (.iaload, 1) := by decide +kernel
theorem dL_law_658 : decode cL_law 658 = .ok (.invokevirtual 98, 3) := by decide +kernel
theorem dL_law_661 : decode cL_law 661 = .ok (.aload_n 2, 1) := by decide +kernel
theorem dL_law_662 : decode cL_law 662 = .ok (.aload_n 0, 1) := by decide +kernel
theorem dL_law_663 : decode cL_law 663 = .ok (.iload_n 3, 1) := by decide +kernel
theorem dL_law_664 : decode cL_law 664 = .ok (.iconst 1, 1) := by decide +kernel
theorem dL_law_665 : decode cL_law 665 = .ok (.iadd, 1) := by decide +kernel
theorem dL_law_666 : decode cL_law 666 = .ok (.iaload, 1) := by decide +kernel
theorem dL_law_667 : decode cL_law 667 = .ok (.invokevirtual 101, 3) := by decide +kernel
theorem dL_law_670 : decode cL_law 670 = .ok (.if_icmp .eq 19, 3) := by decide +kernel
theorem dL_law_673 : decode cL_law 673 = .ok (.iconst 0, 1) := by decide +kernel
theorem dL_law_674 : decode cL_law 674 = .ok (.ireturn, 1) := by decide +kernel
theorem dL_law_675 : decode cL_law 675 = .ok (.aload_n 1, 1) := by decide +kernel
theorem dL_law_676 : decode cL_law 676 = .ok (.invokevirtual 102, 3) := by decide +kernel
theorem dL_law_679 : decode cL_law 679 = .ok (.aload_n 2, 1) := by decide +kernel
theorem dL_law_680 : decode cL_law 680 = .ok (.invokevirtual 106, 3) := by decide +kernel
theorem dL_law_683 : decode cL_law 683 = .ok (.lcmp, 1) := by decide +kernel
theorem dL_law_684 : decode cL_law 684 = .ok (.ifCond .eq 5, 3) := by decide +kernel
theorem dL_law_687 : decode cL_law 687 = .ok (.iconst 0, 1) := by decide +kernel
theorem dL_law_688 : decode cL_law 688 = .ok (.ireturn, 1) := by decide +kernel
theorem dL_law_689 : decode cL_law 689 = .ok (.iinc 3 4, 3) := by decide +kernel
theorem dL_law_692 : decode cL_law 692 = .ok (.goto (-674), 3) := by decide +kernel
theorem dL_law_695 : decode cL_law 695 = .ok (.iconst 1, 1) := by decide +kernel
theorem dL_law_696 : decode cL_law 696 = .ok (.ireturn, 1) := by decide +kernel
abbrev vwCl : List vw_C := [(RX0, TX0, 1), (RX2, TX2, 2), (RX3, TX3, 11), (RX4, TX4, 6), (RX5, TX5, 20)]
end
section
/-! Rows of my own over the kit: numbers as nI k, reading contracts, calls in one row. -/
abbrev TYS (cI cZ : ClassId) : List (ClassId × FieldType) := [(cI, .int), (cZ, .boolean)]
/-- x lies in 0 .. n - 1 -/
abbrev inR (n : Nat) (x : Int32) : Prop := 0 ≤ x.toInt ∧ x.toInt < (n : Int)
theorem inR_of {n : Nat} {x : Int32} (h : inR n x) : ∃ k, k < n ∧ x = nI k := by
  refine ⟨x.toInt.toNat, by have := h.1; have := h.2; omega, ?_⟩
  apply Int32.toInt_inj.mp
  have h1 := Int32.toInt_lt x
  rw [nI_toInt (by have := h.1; have := h.2; omega)]
  have := h.1
  omega
theorem inR_nI {n k : Nat} (hk : k < n) (h : k < 2 ^ 31) : inR n (nI k) := by
  unfold inR
  rw [nI_toInt h]
  omega
theorem inR_iff {n k : Nat} (h : k < 2 ^ 31) : inR n (nI k) ↔ k < n := by
  unfold inR
  rw [nI_toInt h]
  omega
theorem cl_nI {k : Nat} (h : k < 2 ^ 31) : (nI k).toNatClampNeg = k := nI_clamp h
section WR
variable {p : Program} {l : Launch} {e : Env} {R : Room} {s : State} {m : MethodId} {args : Array Value} {below : List Frame} {meth : Method} {c : Code} {H : Heap} {locs : List Loc} {cells slots : Nat} {Q : State → Prop}
variable {cc : ByteArray} {pc : Nat} {ls : Array Slot} {rest : List Value} {D : va_G} {cl : List vw_C} {A : Nat → Prop} {a : Nat} {tys : List (ClassId × FieldType)} {ws : va_W} {H0 : Heap}
theorem w_addN (hx : p.tables.exec = Jvm.exec) (hb : c.code = cc) {x y : Nat} (hdg : decode cc pc = .ok (.iadd, 1))
    (k : W p l e R s m args below meth c H locs cells slots Q (F0 m (pc + 1) ls (.int (nI (x + y)) :: rest))) : W p l e R s m args below meth c H locs cells slots Q (F0 m pc ls (.int (nI y) :: .int (nI x) :: rest)) := by
  refine lv_iadd hx hb hdg ?_
  rw [nI_add]
  exact k
theorem w_mulN (hx : p.tables.exec = Jvm.exec) (hb : c.code = cc) {x y : Nat} (hdg : decode cc pc = .ok (.imul, 1))
    (k : W p l e R s m args below meth c H locs cells slots Q (F0 m (pc + 1) ls (.int (nI (x * y)) :: rest))) : W p l e R s m args below meth c H locs cells slots Q (F0 m pc ls (.int (nI y) :: .int (nI x) :: rest)) := by
  refine lv_imul hx hb hdg ?_
  rw [pk_mul]
  exact k
theorem w_subN (hx : p.tables.exec = Jvm.exec) (hb : c.code = cc) {x y : Nat} (h : y ≤ x) (hdg : decode cc pc = .ok (.isub, 1))
    (k : W p l e R s m args below meth c H locs cells slots Q (F0 m (pc + 1) ls (.int (nI (x - y)) :: rest))) : W p l e R s m args below meth c H locs cells slots Q (F0 m pc ls (.int (nI y) :: .int (nI x) :: rest)) := by
  refine lv_isub hx hb hdg ?_
  rw [pk_sub h]
  exact k
theorem w_divN (hx : p.tables.exec = Jvm.exec) (hb : c.code = cc) {x y : Nat} (h1 : x < 2 ^ 31) (h2 : 0 < y) (h3 : y < 2 ^ 31) (hdg : decode cc pc = .ok (.idiv, 1))
    (k : W p l e R s m args below meth c H locs cells slots Q (F0 m (pc + 1) ls (.int (nI (x / y)) :: rest))) : W p l e R s m args below meth c H locs cells slots Q (F0 m pc ls (.int (nI y) :: .int (nI x) :: rest)) := by
  refine lv_idiv hx hb hdg (nI_ne0 h2 h3) ?_
  rw [pk_div h1 h2 h3]
  exact k
theorem w_remN (hx : p.tables.exec = Jvm.exec) (hb : c.code = cc) {x y : Nat} (h1 : x < 2 ^ 31) (h2 : 0 < y) (h3 : y < 2 ^ 31) (hdg : decode cc pc = .ok (.irem, 1))
    (k : W p l e R s m args below meth c H locs cells slots Q (F0 m (pc + 1) ls (.int (nI (x % y)) :: rest))) : W p l e R s m args below meth c H locs cells slots Q (F0 m pc ls (.int (nI y) :: .int (nI x) :: rest)) := by
  refine lv_irem hx hb hdg (nI_ne0 h2 h3) ?_
  rw [pk_rem h1 h2 h3]
  exact k
/-- the remainder of ints, as the machine has it -/
def rm (x y : Int32) : Int32 := x - x / y * y
theorem w_rem (hx : p.tables.exec = Jvm.exec) (hb : c.code = cc) {x y : Int32} (h : ¬ y = 0) (hdg : decode cc pc = .ok (.irem, 1))
    (k : W p l e R s m args below meth c H locs cells slots Q (F0 m (pc + 1) ls (.int (rm x y) :: rest))) : W p l e R s m args below meth c H locs cells slots Q (F0 m pc ls (.int y :: .int x :: rest)) := lv_irem hx hb hdg h k
theorem w_inc1 {k : Nat} : nI k + Int32.ofInt 1 = nI (k + 1) := nI_add k 1
theorem w_inc4 {k : Nat} : nI k + Int32.ofInt 4 = nI (k + 4) := nI_add k 4
theorem w_dec1 {k : Nat} (h : 1 ≤ k) : nI k + Int32.ofInt (-1) = nI (k - 1) := by
  obtain ⟨j, rfl⟩ : ∃ j, k = j + 1 := ⟨k - 1, by omega⟩
  exact pk_m1 j
theorem w_iald (hx : p.tables.exec = Jvm.exec) (hb : c.code = cc) (hK : va_K D cl tys s) (hP : va_P D cl ws H) (q0 t0 : Nat) {cA : ClassId} {n : Nat} {f : Nat → Int32} (ha : ws[q0]? = some (a, .inl (cA, n, .inl f))) (ht : tys[t0]? = some (cA, .int)) {k : Nat} (hk : k < n) (hn : n < 2 ^ 31) (hdg : decode cc pc = .ok (.iaload, 1))
    (kk : W p l e R s m args below meth c H locs cells slots Q (F0 m (pc + 1) ls (.int (f k) :: rest))) : W p l e R s m args below meth c H locs cells slots Q (F0 m pc ls (.int (nI k) :: .ref a :: rest)) := by
  refine va_iald hx hb hK hP q0 t0 ha ht (vp_in_nI hk hn) hdg ?_
  rw [nI_clamp (by omega)]
  exact kk
theorem w_zald (hx : p.tables.exec = Jvm.exec) (hb : c.code = cc) (hK : va_K D cl tys s) (hP : va_P D cl ws H) (q0 t0 : Nat) {cA : ClassId} {n : Nat} {f : Nat → Int32} (ha : ws[q0]? = some (a, .inl (cA, n, .inl f))) (ht : tys[t0]? = some (cA, .boolean)) {k : Nat} (hk : k < n) (hn : n < 2 ^ 31) (hdg : decode cc pc = .ok (.baload, 1))
    (kk : W p l e R s m args below meth c H locs cells slots Q (F0 m (pc + 1) ls (.int (f k) :: rest))) : W p l e R s m args below meth c H locs cells slots Q (F0 m pc ls (.int (nI k) :: .ref a :: rest)) := by
  refine va_zald hx hb hK hP q0 t0 ha ht (vp_in_nI hk hn) hdg ?_
  rw [nI_clamp (by omega)]
  exact kk
theorem w_iast (hx : p.tables.exec = Jvm.exec) (hb : c.code = cc) (hK : va_K D cl tys s) (hP : va_P D cl ws H) (hD : va_D A ws) (hS : va_S A H0 H locs) (q0 t0 : Nat) {cA : ClassId} {n : Nat} {f : Nat → Int32} (ha : ws[q0]? = some (a, .inl (cA, n, .inl f))) (ht : tys[t0]? = some (cA, .int)) {k : Nat} {x : Int32} (hk : k < n) (hn : n < 2 ^ 31) (hdg : decode cc pc = .ok (.iastore, 1))
    (kk : ∀ (H1 : Heap) (locs1 : List Loc), va_P D cl (ws.set q0 (a, .inl (cA, n, .inl (upd f k x)))) H1 → va_D A (ws.set q0 (a, .inl (cA, n, .inl (upd f k x)))) → va_S A H0 H1 locs1 → W p l e R s m args below meth c H1 locs1 cells slots Q (F0 m (pc + 1) ls rest)) : W p l e R s m args below meth c H locs cells slots Q (F0 m pc ls (.int x :: .int (nI k) :: .ref a :: rest)) := by
  refine va_iast hx hb hK hP hD hS q0 t0 ha ht (vp_in_nI hk hn) hdg ?_
  rw [nI_clamp (by omega)]
  exact kk
theorem w_zast (hx : p.tables.exec = Jvm.exec) (hb : c.code = cc) (hK : va_K D cl tys s) (hP : va_P D cl ws H) (hD : va_D A ws) (hS : va_S A H0 H locs) (q0 t0 : Nat) {cA : ClassId} {n : Nat} {f : Nat → Int32} (ha : ws[q0]? = some (a, .inl (cA, n, .inl f))) (ht : tys[t0]? = some (cA, .boolean)) {k : Nat} {x : Int32} (hk : k < n) (hn : n < 2 ^ 31) (hx2 : vp_nar .boolean x = x) (hdg : decode cc pc = .ok (.bastore, 1))
    (kk : ∀ (H1 : Heap) (locs1 : List Loc), va_P D cl (ws.set q0 (a, .inl (cA, n, .inl (upd f k x)))) H1 → va_D A (ws.set q0 (a, .inl (cA, n, .inl (upd f k x)))) → va_S A H0 H1 locs1 → W p l e R s m args below meth c H1 locs1 cells slots Q (F0 m (pc + 1) ls rest)) : W p l e R s m args below meth c H locs cells slots Q (F0 m pc ls (.int x :: .int (nI k) :: .ref a :: rest)) := by
  refine va_zast hx hb hK hP hD hS q0 t0 ha ht (vp_in_nI hk hn) hdg ?_
  rw [nI_clamp (by omega), hx2]
  exact kk
theorem w_ci_eq (hx : p.tables.exec = Jvm.exec) (hb : c.code = cc) {x y : Nat} (h1 : x < 2 ^ 31) (h2 : y < 2 ^ 31) {off : Int} {tgt : Nat} (hdg : decode cc pc = .ok (.if_icmp .eq off, 3)) (ht : (pc : Int) + off = (tgt : Int))
    (kt : x = y → W p l e R s m args below meth c H locs cells slots Q (F0 m tgt ls rest)) (kf : ¬ x = y → W p l e R s m args below meth c H locs cells slots Q (F0 m (pc + 3) ls rest)) : W p l e R s m args below meth c H locs cells slots Q (F0 m pc ls (.int (nI y) :: .int (nI x) :: rest)) := lv_icmp_eq hx hb hdg ht (fun h => kt ((nI_eq h1 h2).mp h)) (fun h => kf (fun q => h ((nI_eq h1 h2).mpr q)))
theorem w_ci_ne (hx : p.tables.exec = Jvm.exec) (hb : c.code = cc) {x y : Nat} (h1 : x < 2 ^ 31) (h2 : y < 2 ^ 31) {off : Int} {tgt : Nat} (hdg : decode cc pc = .ok (.if_icmp .ne off, 3)) (ht : (pc : Int) + off = (tgt : Int))
    (kt : ¬ x = y → W p l e R s m args below meth c H locs cells slots Q (F0 m tgt ls rest)) (kf : x = y → W p l e R s m args below meth c H locs cells slots Q (F0 m (pc + 3) ls rest)) : W p l e R s m args below meth c H locs cells slots Q (F0 m pc ls (.int (nI y) :: .int (nI x) :: rest)) := by
  refine lv_icmp_ne hx hb hdg ht (fun h => kt (fun q => ?_)) (fun h => kf ?_)
  · exact (h : ¬ _) ((nI_eq h1 h2).mpr q)
  · exact (nI_eq h1 h2).mp (by first | exact h | exact Classical.not_not.mp h)
theorem w_ci_lt (hx : p.tables.exec = Jvm.exec) (hb : c.code = cc) {x y : Nat} (h1 : x < 2 ^ 31) (h2 : y < 2 ^ 31) {off : Int} {tgt : Nat} (hdg : decode cc pc = .ok (.if_icmp .lt off, 3)) (ht : (pc : Int) + off = (tgt : Int))
    (kt : x < y → W p l e R s m args below meth c H locs cells slots Q (F0 m tgt ls rest)) (kf : y ≤ x → W p l e R s m args below meth c H locs cells slots Q (F0 m (pc + 3) ls rest)) : W p l e R s m args below meth c H locs cells slots Q (F0 m pc ls (.int (nI y) :: .int (nI x) :: rest)) := lv_icmp_lt hx hb hdg ht (fun h => kt ((nI_ltI h1 h2).mp h)) (fun h => kf (Nat.not_lt.mp (fun q => h ((nI_ltI h1 h2).mpr q))))
theorem w_ci_ge (hx : p.tables.exec = Jvm.exec) (hb : c.code = cc) {x y : Nat} (h1 : x < 2 ^ 31) (h2 : y < 2 ^ 31) {off : Int} {tgt : Nat} (hdg : decode cc pc = .ok (.if_icmp .ge off, 3)) (ht : (pc : Int) + off = (tgt : Int))
    (kt : y ≤ x → W p l e R s m args below meth c H locs cells slots Q (F0 m tgt ls rest)) (kf : x < y → W p l e R s m args below meth c H locs cells slots Q (F0 m (pc + 3) ls rest)) : W p l e R s m args below meth c H locs cells slots Q (F0 m pc ls (.int (nI y) :: .int (nI x) :: rest)) := lv_icmp_ge hx hb hdg ht (fun h => kt ((nI_leI h2 h1).mp h)) (fun h => kf (Nat.not_le.mp (fun q => h ((nI_leI h2 h1).mpr q))))
theorem w_ci_gt (hx : p.tables.exec = Jvm.exec) (hb : c.code = cc) {x y : Nat} (h1 : x < 2 ^ 31) (h2 : y < 2 ^ 31) {off : Int} {tgt : Nat} (hdg : decode cc pc = .ok (.if_icmp .gt off, 3)) (ht : (pc : Int) + off = (tgt : Int))
    (kt : y < x → W p l e R s m args below meth c H locs cells slots Q (F0 m tgt ls rest)) (kf : x ≤ y → W p l e R s m args below meth c H locs cells slots Q (F0 m (pc + 3) ls rest)) : W p l e R s m args below meth c H locs cells slots Q (F0 m pc ls (.int (nI y) :: .int (nI x) :: rest)) := lv_icmp_gt hx hb hdg ht (fun h => kt ((nI_ltI h2 h1).mp h)) (fun h => kf (Nat.not_lt.mp (fun q => h ((nI_ltI h2 h1).mpr q))))
theorem w_ci_le (hx : p.tables.exec = Jvm.exec) (hb : c.code = cc) {x y : Nat} (h1 : x < 2 ^ 31) (h2 : y < 2 ^ 31) {off : Int} {tgt : Nat} (hdg : decode cc pc = .ok (.if_icmp .le off, 3)) (ht : (pc : Int) + off = (tgt : Int))
    (kt : x ≤ y → W p l e R s m args below meth c H locs cells slots Q (F0 m tgt ls rest)) (kf : y < x → W p l e R s m args below meth c H locs cells slots Q (F0 m (pc + 3) ls rest)) : W p l e R s m args below meth c H locs cells slots Q (F0 m pc ls (.int (nI y) :: .int (nI x) :: rest)) := lv_icmp_le hx hb hdg ht (fun h => kt ((nI_leI h1 h2).mp h)) (fun h => kf (Nat.not_le.mp (fun q => h ((nI_leI h1 h2).mpr q))))
/-- branches on what a boolean method answered -/
theorem w_ifeqB (hx : p.tables.exec = Jvm.exec) (hb : c.code = cc) {P : Prop} [Decidable P] {off : Int} {tgt : Nat} (hdg : decode cc pc = .ok (.ifCond .eq off, 3)) (ht : (pc : Int) + off = (tgt : Int))
    (kt : ¬ P → W p l e R s m args below meth c H locs cells slots Q (F0 m tgt ls rest)) (kf : P → W p l e R s m args below meth c H locs cells slots Q (F0 m (pc + 3) ls rest)) : W p l e R s m args below meth c H locs cells slots Q (F0 m pc ls (.int (if P then nI 1 else nI 0) :: rest)) := by
  refine lv_if_eq hx hb hdg ht (fun h => kt (fun q => ?_)) (fun h => kf (Classical.byContradiction fun q => ?_))
  · rw [if_pos q] at h; exact absurd h (by decide)
  · rw [if_neg q] at h; exact h rfl
theorem w_ifneB (hx : p.tables.exec = Jvm.exec) (hb : c.code = cc) {P : Prop} [Decidable P] {off : Int} {tgt : Nat} (hdg : decode cc pc = .ok (.ifCond .ne off, 3)) (ht : (pc : Int) + off = (tgt : Int))
    (kt : P → W p l e R s m args below meth c H locs cells slots Q (F0 m tgt ls rest)) (kf : ¬ P → W p l e R s m args below meth c H locs cells slots Q (F0 m (pc + 3) ls rest)) : W p l e R s m args below meth c H locs cells slots Q (F0 m pc ls (.int (if P then nI 1 else nI 0) :: rest)) := by
  refine lv_if_ne hx hb hdg ht (fun h => kt (Classical.byContradiction fun q => ?_)) (fun h => kf (fun q => ?_))
  · rw [if_neg q] at h; exact absurd rfl h
  · rw [if_pos q] at h; exact absurd h (by decide)
theorem w_ifeqN (hx : p.tables.exec = Jvm.exec) (hb : c.code = cc) {x : Nat} (h1 : x < 2 ^ 31) {off : Int} {tgt : Nat} (hdg : decode cc pc = .ok (.ifCond .eq off, 3)) (ht : (pc : Int) + off = (tgt : Int))
    (kt : x = 0 → W p l e R s m args below meth c H locs cells slots Q (F0 m tgt ls rest)) (kf : ¬ x = 0 → W p l e R s m args below meth c H locs cells slots Q (F0 m (pc + 3) ls rest)) : W p l e R s m args below meth c H locs cells slots Q (F0 m pc ls (.int (nI x) :: rest)) :=
  lv_if_eq hx hb hdg ht (fun h => kt ((nI_eq (b := 0) h1 (by decide)).mp h)) (fun h => kf (fun q => h ((nI_eq (b := 0) h1 (by decide)).mpr q)))
theorem w_ifneN (hx : p.tables.exec = Jvm.exec) (hb : c.code = cc) {x : Nat} (h1 : x < 2 ^ 31) {off : Int} {tgt : Nat} (hdg : decode cc pc = .ok (.ifCond .ne off, 3)) (ht : (pc : Int) + off = (tgt : Int))
    (kt : ¬ x = 0 → W p l e R s m args below meth c H locs cells slots Q (F0 m tgt ls rest)) (kf : x = 0 → W p l e R s m args below meth c H locs cells slots Q (F0 m (pc + 3) ls rest)) : W p l e R s m args below meth c H locs cells slots Q (F0 m pc ls (.int (nI x) :: rest)) :=
  lv_if_ne hx hb hdg ht (fun h => kt (fun q => h ((nI_eq (b := 0) h1 (by decide)).mpr q))) (fun h => kf ((nI_eq (b := 0) h1 (by decide)).mp h))
theorem w_ifltN (hx : p.tables.exec = Jvm.exec) (hb : c.code = cc) {x : Nat} (h1 : x < 2 ^ 31) {off : Int} {tgt : Nat} (hdg : decode cc pc = .ok (.ifCond .lt off, 3)) (ht : (pc : Int) + off = (tgt : Int))
    (kt : False → W p l e R s m args below meth c H locs cells slots Q (F0 m tgt ls rest)) (kf : True → W p l e R s m args below meth c H locs cells slots Q (F0 m (pc + 3) ls rest)) : W p l e R s m args below meth c H locs cells slots Q (F0 m pc ls (.int (nI x) :: rest)) :=
  lv_if_lt hx hb hdg ht (fun h => kt (nI_pos h1 h)) (fun h => kf trivial)
theorem w_ifgeN (hx : p.tables.exec = Jvm.exec) (hb : c.code = cc) {x : Nat} (h1 : x < 2 ^ 31) {off : Int} {tgt : Nat} (hdg : decode cc pc = .ok (.ifCond .ge off, 3)) (ht : (pc : Int) + off = (tgt : Int))
    (kt : True → W p l e R s m args below meth c H locs cells slots Q (F0 m tgt ls rest)) (kf : False → W p l e R s m args below meth c H locs cells slots Q (F0 m (pc + 3) ls rest)) : W p l e R s m args below meth c H locs cells slots Q (F0 m pc ls (.int (nI x) :: rest)) :=
  lv_if_ge hx hb hdg ht (fun h => kt trivial) (fun h => kf (h (nI_le (a := 0) (Nat.zero_le _) h1)))
theorem w_ifgtN (hx : p.tables.exec = Jvm.exec) (hb : c.code = cc) {x : Nat} (h1 : x < 2 ^ 31) {off : Int} {tgt : Nat} (hdg : decode cc pc = .ok (.ifCond .gt off, 3)) (ht : (pc : Int) + off = (tgt : Int))
    (kt : 0 < x → W p l e R s m args below meth c H locs cells slots Q (F0 m tgt ls rest)) (kf : x = 0 → W p l e R s m args below meth c H locs cells slots Q (F0 m (pc + 3) ls rest)) : W p l e R s m args below meth c H locs cells slots Q (F0 m pc ls (.int (nI x) :: rest)) :=
  lv_if_gt hx hb hdg ht (fun h => kt ((nI_ltI (a := 0) (by decide) h1).mp h)) (fun h => kf (Nat.eq_zero_of_not_pos (fun q => h ((nI_ltI (a := 0) (by decide) h1).mpr q))))
theorem w_ifleN (hx : p.tables.exec = Jvm.exec) (hb : c.code = cc) {x : Nat} (h1 : x < 2 ^ 31) {off : Int} {tgt : Nat} (hdg : decode cc pc = .ok (.ifCond .le off, 3)) (ht : (pc : Int) + off = (tgt : Int))
    (kt : x = 0 → W p l e R s m args below meth c H locs cells slots Q (F0 m tgt ls rest)) (kf : 0 < x → W p l e R s m args below meth c H locs cells slots Q (F0 m (pc + 3) ls rest)) : W p l e R s m args below meth c H locs cells slots Q (F0 m pc ls (.int (nI x) :: rest)) :=
  lv_if_le hx hb hdg ht (fun h => kt (Nat.le_zero.mp ((nI_leI (b := 0) h1 (by decide)).mp h))) (fun h => kf (Nat.pos_of_ne_zero (fun q => h ((nI_leI (b := 0) h1 (by decide)).mpr (Nat.le_of_eq q)))))
theorem lN_ne0 {o : Nat} (h : 1 ≤ o) (h2 : o < 2147483648) : ¬ lN o = 0 := fun q => by
  have := (lN_eq (a := o) (b := 0) (by omega) (by decide)).mp q
  omega
theorem w_tne {x : Int32} {k : Nat} (hk : k < 2 ^ 31) (h : ¬ x = nI k) : ¬ x.toInt = (k : Int) := fun q => h (Int32.toInt_inj.mp (by rw [q, nI_toInt hk]))
theorem w_nz {P : Prop} [Decidable P] : vp_nar .boolean (if P then nI 1 else nI 0) = (if P then nI 1 else nI 0) := by
  by_cases h : P
  · rw [if_pos h]; rfl
  · rw [if_neg h]; rfl
theorem lv_cong {n : Nat} {l1 l2 : List (Nat × Value)} (h : lv_has ls n l1) (e : l1 = l2) : lv_has ls n l2 := e ▸ h
theorem w_Pc {ws' : va_W} (h : va_P D cl ws H) (e : ws = ws') : va_P D cl ws' H := e ▸ h
theorem w_Dc {ws' : va_W} (h : va_D A ws) (e : ws = ws') : va_D A ws' := e ▸ h
theorem arrV_congr (cI : ClassId) {N : Nat} {f g : Nat → Value} (h : ∀ j, j < N → f j = g j) : arrV cI N f = arrV cI N g := by
  unfold arrV
  congr 1
  apply Array.ext
  · simp
  · intro i h1 h2
    simp at h1
    simp [h i h1]
theorem w_same {ws : va_W} {q1 a : Nat} {c1 : ClassId} {n : Nat} {f g : Nat → Int32} (hP : va_P D cl (ws.set q1 (a, .inl (c1, n, .inl f))) H) (hfg : ∀ j, j < n → f j = g j) : va_P D cl (ws.set q1 (a, .inl (c1, n, .inl g))) H := by
  intro k q hk
  by_cases hkq : q1 = k
  · subst hkq
    have hlt : q1 < ws.length := by
      have := (List.getElem?_eq_some_iff.mp hk).1
      simpa using this
    have h0 := hP q1 (a, .inl (c1, n, .inl f)) (by simp [hlt])
    have hq : q = (a, .inl (c1, n, .inl g)) := by
      have : (ws.set q1 (a, .inl (c1, n, .inl g)))[q1]? = some (a, .inl (c1, n, .inl g)) := by simp [hlt]
      rw [this] at hk
      exact (Option.some.inj hk).symm
    subst hq
    show H[a]? = some (arrV c1 n (fun j => .int (g j)))
    have e : arrV c1 n (fun j => Value.int (f j)) = arrV c1 n (fun j => Value.int (g j)) := arrV_congr c1 (fun j hj => by rw [hfg j hj])
    rw [← e]
    exact h0
  · refine hP k q ?_
    rw [List.getElem?_set_ne hkq] at hk ⊢
    exact hk
theorem w_sameD {ws : va_W} {q1 a : Nat} {x y : va_E} (hD : va_D A (ws.set q1 (a, x))) : va_D A (ws.set q1 (a, y)) := by
  have key : ∀ (k : Nat) (q : Nat × va_E), (ws.set q1 (a, y))[k]? = some q → ∃ q', (ws.set q1 (a, x))[k]? = some q' ∧ q'.1 = q.1 := by
    intro k q hk
    by_cases hkq : q1 = k
    · subst hkq
      have hlt : q1 < ws.length := by
        have := (List.getElem?_eq_some_iff.mp hk).1
        simpa using this
      refine ⟨(a, x), by simp [hlt], ?_⟩
      have : (ws.set q1 (a, y))[q1]? = some (a, y) := by simp [hlt]
      rw [this] at hk
      rw [← Option.some.inj hk]
    · refine ⟨q, ?_, rfl⟩
      rw [List.getElem?_set_ne hkq] at hk ⊢
      exact hk
  refine ⟨fun i j p q hp hq e => ?_, fun k q hk => ?_⟩
  · obtain ⟨p', h1, e1⟩ := key i p hp
    obtain ⟨q', h2, e2⟩ := key j q hq
    exact hD.1 i j p' q' h1 h2 (by rw [e1, e2, e])
  · obtain ⟨q', h1, e1⟩ := key k q hk
    rw [← e1]
    exact hD.2 k q' h1
/-- a whole row copied: the target holds what the source holds -/
theorem w_copy (hexec : p.tables.exec = Jvm.exec) (hb : c.code = cc) (hml : c.maxLocals = ls.size) {own : String} {index : Nat} (hown : s.vm.findClass own = some m.cls) (hlink : (Cond.methodLink own index arraycopyName).before args s = true) (hnat : (Cond.native arraycopyName).before args s = true) (hstat : (Cond.static arraycopyName).before args s = true) (hini : (Cond.initialized "java/lang/System").before args s = true)
    (hK : va_K D cl tys s) (hP : va_P D cl ws H) (hD : va_D A ws) (hS : va_S A H0 H locs) (q0 q1 t0 : Nat) {a0 : Nat} {c0 : ClassId} {n : Nat} {f g : Nat → Int32} {ty : FieldType} (ha0 : ws[q0]? = some (a0, .inl (c0, n, .inl f))) (ha1 : ws[q1]? = some (a, .inl (c0, n, .inl g))) (ht0 : tys[t0]? = some (c0, ty)) (hprim : refKind ty = false) (hn : n < 2 ^ 31)
    (hfit : ∀ i, fits ty (.int (f i)) = true)
    (hframes : 1 ≤ R.frames) (hlocals : (rest.map fun v => v.category).sum + (nativeFrameWords "java/lang/System" "arraycopy" 5 + 11) ≤ R.locals) (hdg : decode cc pc = .ok (.invokestatic index, 3))
    (kk : ∀ (H1 : Heap) (locs1 : List Loc), va_P D cl (ws.set q1 (a, .inl (c0, n, .inl f))) H1 → va_D A (ws.set q1 (a, .inl (c0, n, .inl f))) → va_S A H0 H1 locs1 → W p l e R s m args below meth c H1 locs1 cells slots Q (F0 m (pc + 3) ls rest)) : W p l e R s m args below meth c H locs cells slots Q (F0 m pc ls (.int (nI n) :: .int (nI 0) :: .ref a :: .int (nI 0) :: .ref a0 :: rest)) := by
  have e0 : (nI 0).toNatClampNeg = 0 := rfl
  have en : (nI n).toNatClampNeg = n := nI_clamp hn
  refine va_copyi hexec hb hml hown hlink hnat hstat hini hK hP hD hS q0 q1 t0 t0 ha0 ha1 ht0 ht0 hprim (by decide) (by decide) (nI_pos hn) (by rw [e0, en]; omega) (by rw [e0, en]; omega) (fun i _ => hfit _) hframes hlocals hdg (fun H1 locs1 h1 h2 h3 => ?_)
  rw [e0, en] at h1 h2
  exact kk H1 locs1 (w_same h1 (fun j hj => by simp [va_cpy, hj])) (w_sameD h2) h3
theorem w_nb {P : Prop} [Decidable P] : narrow .boolean (.int (if P then nI 1 else nI 0)) = .int (if P then nI 1 else nI 0) := by
  by_cases h : P
  · rw [if_pos h]; rfl
  · rw [if_neg h]; rfl
theorem w_ite1 {P : Prop} [Decidable P] (h : P) : nI 1 = if P then nI 1 else nI 0 := (if_pos h).symm
theorem w_ite0 {P : Prop} [Decidable P] (h : ¬ P) : nI 0 = if P then nI 1 else nI 0 := (if_neg h).symm
/-- what the contracts start from -/
abbrev PR (D : va_G) (cI cZ : ClassId) (ws : va_W) : State → Prop := fun U => va_P D vwCl ws U.heap ∧ va_K D vwCl (TYS cI cZ) U
abbrev PW (D : va_G) (cI cZ : ClassId) (sz : Nat) (ws : va_W) : State → Prop := fun U => U.heap.size = sz ∧ va_P D vwCl ws U.heap ∧ va_K D vwCl (TYS cI cZ) U ∧ va_D (fun _ => True) ws
theorem blindR {D : va_G} {cI cZ : ClassId} {ws : va_W} {av : List Value} : FrameBlind (va_Pc av (PR D cI cZ ws)) := fun a U g mk q => by
  obtain ⟨q0, qP, qK⟩ := q
  exact ⟨q0, qP, va_K.moved (u := U) (U := U.calling g mk a) (Vm.Alike.refl U.vm) qK⟩
theorem blindW {D : va_G} {cI cZ : ClassId} {sz : Nat} {ws : va_W} {av : List Value} : FrameBlind (va_Pc av (PW D cI cZ sz ws)) := fun a U g mk q => by
  obtain ⟨q0, q1, qP, qK, qD⟩ := q
  exact ⟨q0, q1, qP, va_K.moved (u := U) (U := U.calling g mk a) (Vm.Alike.refl U.vm) qK, qD⟩
theorem preRV {D : va_G} {cI cZ : ClassId} {wc : va_W} {As : List Value} {b ci : Nat} {q : vw_C} {fs : List Value} (hK : va_K D vwCl (TYS cI cZ) s) (hP : va_P D vwCl wc H) (hc : vwCl[ci]? = some q) (he : wc[0]? = some (b, .inr (ci, fs))) : PreV s H q.1 b (va_Pc (.ref b :: As) (PR D cI cZ wc)) As :=
  ⟨blindR, va_recv hK hP hc he, fun U hU hW => ⟨rfl, by rw [hU]; exact hP, va_K.moved hW.alike hK⟩⟩
theorem preRS {D : va_G} {cI cZ : ClassId} {wc : va_W} {As : List Value} (hK : va_K D vwCl (TYS cI cZ) s) (hP : va_P D vwCl wc H) : PreS s H (va_Pc As (PR D cI cZ wc)) As :=
  ⟨blindR, fun U hU hW => ⟨rfl, by rw [hU]; exact hP, va_K.moved hW.alike hK⟩⟩
theorem preWV {D : va_G} {cI cZ : ClassId} {wc : va_W} {As : List Value} {b ci : Nat} {q : vw_C} {fs : List Value} {B : Nat → Prop} (hK : va_K D vwCl (TYS cI cZ) s) (hP : va_P D vwCl wc H) (hD : va_D B wc) (hc : vwCl[ci]? = some q) (he : wc[0]? = some (b, .inr (ci, fs))) : PreV s H q.1 b (va_Pc (.ref b :: As) (PW D cI cZ H.size wc)) As :=
  ⟨blindW, va_recv hK hP hc he, fun U hU hW => ⟨rfl, by rw [hU], by rw [hU]; exact hP, va_K.moved hW.alike hK, hD.weaken (fun _ _ _ _ => trivial)⟩⟩
theorem preWS {D : va_G} {cI cZ : ClassId} {wc : va_W} {As : List Value} {B : Nat → Prop} (hK : va_K D vwCl (TYS cI cZ) s) (hP : va_P D vwCl wc H) (hD : va_D B wc) : PreS s H (va_Pc As (PW D cI cZ H.size wc)) As :=
  ⟨blindW, fun U hU hW => ⟨rfl, by rw [hU], by rw [hU]; exact hP, va_K.moved hW.alike hK, hD.weaken (fun _ _ _ _ => trivial)⟩⟩
/-- a reading contract's end, and its call -/
abbrev QRi (v : Int32) : Array Value → State → Outcome → State → Prop := vp_Si (fun r => r = v)
abbrev QRl (v : Int64) : Array Value → State → Outcome → State → Prop := vp_Sl (fun r => r = v)
abbrev noF : Addr → Prop := fun _ => False
theorem callRi {v : Int32} {av : Array Value} {st0 : List Value} (hr : CallRun p l e R s m args below meth c H locs cells slots 0 0 (F0 m pc ls st0) rest (QRi v av) noF)
    (kk : W p l e R s m args below meth c H locs cells slots Q (F0 m (pc + 3) ls (.int v :: rest))) : W p l e R s m args below meth c H locs cells slots Q (F0 m pc ls st0) := vp_callSi hr (fun r h => h ▸ kk)
theorem callRl {v : Int64} {av : Array Value} {st0 : List Value} (hr : CallRun p l e R s m args below meth c H locs cells slots 0 0 (F0 m pc ls st0) rest (QRl v av) noF)
    (kk : W p l e R s m args below meth c H locs cells slots Q (F0 m (pc + 3) ls (.long v :: rest))) : W p l e R s m args below meth c H locs cells slots Q (F0 m pc ls st0) := vp_callSl hr (fun r h => h ▸ kk)
/-- a writing contract's end -/
abbrev QWi (D : va_G) (v : Int32) (ws ws' : va_W) (sz : Nat) : Array Value → State → Outcome → State → Prop := va_Qi (S := Unit) (fun r _ => r = v) (fun _ t => va_P D vwCl ws' t.heap ∧ va_D (va_A ws sz) ws') (va_A ws sz)
abbrev QWl (D : va_G) (v : Int64) (ws ws' : va_W) (sz : Nat) : Array Value → State → Outcome → State → Prop := va_Ql (S := Unit) (fun r _ => r = v) (fun _ t => va_P D vwCl ws' t.heap ∧ va_D (va_A ws sz) ws') (va_A ws sz)
abbrev QWv (D : va_G) (ws ws' : va_W) (sz : Nat) : Array Value → State → Outcome → State → Prop := va_Qv (S := Unit) (fun _ => True) (fun _ t => va_P D vwCl ws' t.heap ∧ va_D (va_A ws sz) ws') (va_A ws sz)
/-- a writing call: what comes back stands behind the rest, which is unchanged -/
theorem callWi {D : va_G} {v : Int32} {av : Array Value} {st0 : List Value} {ws wc wr w1 : va_W} (hr : va_Run p l e R s m args below meth c H locs cells slots 0 0 (F0 m pc ls st0) rest (QWi D v wc w1 H.size av) (va_A wc H.size)) (hP : va_P D vwCl ws H) (hD : va_D A ws) (hS : va_S A s.heap H locs) (hA : ∀ q, s.heap.size ≤ q → A q) (isC isR : List Nat) (hC : isC.map (fun i => ws[i]?) = wc.map some) (hR : isR.map (fun i => ws[i]?) = wr.map some) (hn : va_nd isR = true) (hdis : ∀ i ∈ isR, i ∉ isC)
    (kk : ∀ (H1 : Heap) (locs1 : List Loc), va_P D vwCl (wr ++ w1) H1 → va_D A (wr ++ w1) → va_S A s.heap H1 locs1 → W p l e R s m args below meth c H1 locs1 cells slots Q (F0 m (pc + 3) ls (.int v :: rest))) : W p l e R s m args below meth c H locs cells slots Q (F0 m pc ls st0) := by
  have hF := va_free (wc := wc) hD hS hA isC hC
  refine va_calli hr hS (fun q _ h => hF q h) hF (fun r u t H1 locs1 ht hvm hw hB hz hk hS1 => ?_)
  subst hw
  obtain ⟨hP1, hD1⟩ := hB
  rw [ht] at hP1
  obtain ⟨hP2, hD2⟩ := va_join (wr := wr) (w1 := w1) hP hD isC isR hC hR hn hdis hk hF hP1 hD1
  exact kk H1 locs1 hP2 hD2 hS1
theorem callWl {D : va_G} {v : Int64} {av : Array Value} {st0 : List Value} {ws wc wr w1 : va_W} (hr : va_Run p l e R s m args below meth c H locs cells slots 0 0 (F0 m pc ls st0) rest (QWl D v wc w1 H.size av) (va_A wc H.size)) (hP : va_P D vwCl ws H) (hD : va_D A ws) (hS : va_S A s.heap H locs) (hA : ∀ q, s.heap.size ≤ q → A q) (isC isR : List Nat) (hC : isC.map (fun i => ws[i]?) = wc.map some) (hR : isR.map (fun i => ws[i]?) = wr.map some) (hn : va_nd isR = true) (hdis : ∀ i ∈ isR, i ∉ isC)
    (kk : ∀ (H1 : Heap) (locs1 : List Loc), va_P D vwCl (wr ++ w1) H1 → va_D A (wr ++ w1) → va_S A s.heap H1 locs1 → W p l e R s m args below meth c H1 locs1 cells slots Q (F0 m (pc + 3) ls (.long v :: rest))) : W p l e R s m args below meth c H locs cells slots Q (F0 m pc ls st0) := by
  have hF := va_free (wc := wc) hD hS hA isC hC
  refine va_calll hr hS (fun q _ h => hF q h) hF (fun r u t H1 locs1 ht hvm hw hB hz hk hS1 => ?_)
  subst hw
  obtain ⟨hP1, hD1⟩ := hB
  rw [ht] at hP1
  obtain ⟨hP2, hD2⟩ := va_join (wr := wr) (w1 := w1) hP hD isC isR hC hR hn hdis hk hF hP1 hD1
  exact kk H1 locs1 hP2 hD2 hS1
theorem callWv {D : va_G} {av : Array Value} {st0 : List Value} {ws wc wr w1 : va_W} (hr : va_Run p l e R s m args below meth c H locs cells slots 0 0 (F0 m pc ls st0) rest (QWv D wc w1 H.size av) (va_A wc H.size)) (hP : va_P D vwCl ws H) (hD : va_D A ws) (hS : va_S A s.heap H locs) (hA : ∀ q, s.heap.size ≤ q → A q) (isC isR : List Nat) (hC : isC.map (fun i => ws[i]?) = wc.map some) (hR : isR.map (fun i => ws[i]?) = wr.map some) (hn : va_nd isR = true) (hdis : ∀ i ∈ isR, i ∉ isC)
    (kk : ∀ (H1 : Heap) (locs1 : List Loc), va_P D vwCl (wr ++ w1) H1 → va_D A (wr ++ w1) → va_S A s.heap H1 locs1 → W p l e R s m args below meth c H1 locs1 cells slots Q (F0 m (pc + 3) ls rest)) : W p l e R s m args below meth c H locs cells slots Q (F0 m pc ls st0) := by
  have hF := va_free (wc := wc) hD hS hA isC hC
  refine va_callv hr hS (fun q _ h => hF q h) hF (fun u t H1 locs1 ht hvm hw hB hz hk hS1 => ?_)
  obtain ⟨hP1, hD1⟩ := hB
  rw [ht] at hP1
  obtain ⟨hP2, hD2⟩ := va_join (wr := wr) (w1 := w1) hP hD isC isR hC hR hn hdis hk hF hP1 hD1
  exact kk H1 locs1 hP2 hD2 hS1
/-- the ends of methods -/
theorem retRi {v w : Int32} (hx : p.tables.exec = Jvm.exec) (hb : c.code = cc) (hr : meth.sig.returnType = some .int) (hlocks : meth.locks = false) (hv : v = w) {pc : Nat} {ls : Array Slot} (hdg : decode cc pc = .ok (.ireturn, 1)) :
    W p l e R s m args below meth c s.heap [] 0 0 (MQ below (QRi w) args s 0 0 noF) (F0 m pc ls [.int v]) :=
  W.iret (v := v) hx hb hr (fun t ht hW => ⟨v, rfl, hv, ht⟩) (fun _ h => by cases h) hdg hlocks
theorem retRz {v w : Int32} {ty : FieldType} (hx : p.tables.exec = Jvm.exec) (hb : c.code = cc) (hr : meth.sig.returnType = some ty) (hlocks : meth.locks = false) (hn : narrow ty (.int v) = .int v) (hv : v = w) {pc : Nat} {ls : Array Slot} (hdg : decode cc pc = .ok (.ireturn, 1)) :
    W p l e R s m args below meth c s.heap [] 0 0 (MQ below (QRi w) args s 0 0 noF) (F0 m pc ls [.int v]) :=
  W.zret (v := v) hx hb hr hn (fun t ht hW => ⟨v, rfl, hv, ht⟩) (fun _ h => by cases h) hdg hlocks
theorem retRl {v w : Int64} (hx : p.tables.exec = Jvm.exec) (hb : c.code = cc) (hr : meth.sig.returnType = some .long) (hlocks : meth.locks = false) (hv : v = w) {pc : Nat} {ls : Array Slot} (hdg : decode cc pc = .ok (.lreturn, 1)) :
    W p l e R s m args below meth c s.heap [] 0 0 (MQ below (QRl w) args s 0 0 noF) (F0 m pc ls [.long v]) :=
  W.lret (v := v) hx hb hr (fun t ht hW => ⟨v, rfl, hv, ht⟩) (fun _ h => by cases h) hdg hlocks
theorem retWi {D : va_G} {v w : Int32} {ws ws' : va_W} (hx : p.tables.exec = Jvm.exec) (hb : c.code = cc) (hr : meth.sig.returnType = some .int) (hlocks : meth.locks = false) (hv : v = w) (hP : va_P D vwCl ws' H) (hD : va_D A ws') (hS : va_S A s.heap H locs) (hAe : va_A ws s.heap.size = A) {pc : Nat} {ls : Array Slot} (hdg : decode cc pc = .ok (.ireturn, 1)) :
    W p l e R s m args below meth c H locs 0 0 (MQ below (QWi D w ws ws' s.heap.size) args s 0 0 A) (F0 m pc ls [.int v]) := by
  subst hAe
  exact W.iret (v := v) hx hb hr (fun t ht hW => ⟨⟨v, (), rfl, hv, by rw [ht]; exact hP, hD⟩, hS.F ht⟩) hS.2.2 hdg hlocks
theorem retWl {D : va_G} {v w : Int64} {ws ws' : va_W} (hx : p.tables.exec = Jvm.exec) (hb : c.code = cc) (hr : meth.sig.returnType = some .long) (hlocks : meth.locks = false) (hv : v = w) (hP : va_P D vwCl ws' H) (hD : va_D A ws') (hS : va_S A s.heap H locs) (hAe : va_A ws s.heap.size = A) {pc : Nat} {ls : Array Slot} (hdg : decode cc pc = .ok (.lreturn, 1)) :
    W p l e R s m args below meth c H locs 0 0 (MQ below (QWl D w ws ws' s.heap.size) args s 0 0 A) (F0 m pc ls [.long v]) := by
  subst hAe
  exact W.lret (v := v) hx hb hr (fun t ht hW => ⟨⟨v, (), rfl, hv, by rw [ht]; exact hP, hD⟩, hS.F ht⟩) hS.2.2 hdg hlocks
theorem retWv {D : va_G} {ws ws' : va_W} (hx : p.tables.exec = Jvm.exec) (hb : c.code = cc) (hr : meth.sig.returnType = none) (hlocks : meth.locks = false) (hP : va_P D vwCl ws' H) (hD : va_D A ws') (hS : va_S A s.heap H locs) (hAe : va_A ws s.heap.size = A) {pc : Nat} {ls : Array Slot} (hdg : decode cc pc = .ok (.return_, 1)) :
    W p l e R s m args below meth c H locs 0 0 (MQ below (QWv D ws ws' s.heap.size) args s 0 0 A) (F0 m pc ls []) := by
  subst hAe
  exact W.vret hx hb hr (fun t ht hW => ⟨⟨(), rfl, trivial, by rw [ht]; exact hP, hD⟩, hS.F ht⟩) hS.2.2 hdg hlocks
end WR
end
section
/-! What both sides are held to: pure functions. -/
def tb (k sl r : Int32) : Int32 := if k = nI 1 then r else if k = nI 2 then rm (sl + nI 12 - r) (nI 12) else if k = nI 3 then rm (r - rm r (nI 2) + sl) (nI 12) else if k = nI 4 then rm (nI 2 * r) (nI 12) else rm (r + sl) (nI 12)
def wt (fk fs fn fi : Nat → Int32) (c : Nat) : Int32 := if fn c = -1 ∨ ¬ fi c = nI 0 then -1 else tb (fk c) (fs c) (fn c)
abbrev ttP (fk fs fn fi : Nat → Int32) (c : Nat) : Prop := 0 < c ∧ fi c = nI 0 ∧ ¬ wt fk fs fn fi (c - 1) = -1
def cuF (fs : Nat → Int32) (cu : Int32) : Nat → Int32 := fun j => if nI j = cu then nI 0 else fs j
def atF (fk fs : Nat → Int32) : Nat → Nat → Int32 → Int32
  | _, 0, v => v
  | k, d + 1, v => atF fk fs (k + 1) d (tb (fk k) (fs k) v)
def srcF (f : Nat → Int32) (x : Int32) : Nat → Int32
  | 0 => nI 0
  | k + 1 => if f k = x then srcF f x k ||| (nI 1 <<< (nI k &&& 31)) else srcF f x k
def unF (f : Nat → Int32) : Nat → Nat
  | 0 => 0
  | k + 1 => if f k = nI k then unF f k + 1 else unF f k
/-- how many rules, known by child 0, arrive as they are -/
def ucF (fk fs : Nat → Int32) (n : Nat) : Nat := unF (fun r => atF fk fs 0 (n - 1) (nI r)) 12
def bcF (g : Nat → Nat) (m0 : Nat) : Nat → Int32 × Nat
  | 0 => (-1, m0)
  | k + 1 => if (bcF g m0 k).2 < g k then (nI k, g k) else bcF g m0 k
/-- an index that runs down to -1 -/
def dn (j : Nat) : Int32 := nI j - nI 1
def soF (fn fi : Nat → Int32) (n : Nat) : Nat → Int32
  | 0 => -1
  | i + 1 => if ¬ fi i = 0 then -1 else if ¬ fn i = -1 then nI (n - 1 - i) else soF fn fi n i
def ttF (fn fi : Nat → Int32) (n : Nat) : Int32 := if n = 0 then -1 else if ¬ fn (n - 1) = -1 then nI 0 else soF fn fi n n
abbrev exP (fc fw ft : Nat → Int32) (k c sl : Int32) (h : Nat) : Prop := ∀ i, i < h → (fc i = c → tb k sl (fw i) = ft i)
def slF (fc fw ft : Nat → Int32) (k c : Int32) (h : Nat) : Nat → Int32
  | 0 => nI 0
  | v + 1 => if exP fc fw ft k c (nI v) h then slF fc fw ft k c h v ||| (nI 1 <<< (nI v &&& 31)) else slF fc fw ft k c h v
def lbF (b k r x : Int32) : Nat → Nat
  | 0 => 0
  | v + 1 => if ((b >>> (nI v &&& 31)) &&& nI 1) = nI 1 ∧ tb k (nI v) r = x then lbF b k r x v + 1 else lbF b k r x v
def wlF (b k r : Int32) (v : Nat) : Nat → Nat
  | 0 => 0
  | a + 1 => Nat.max (wlF b k r v a) (lbF b k r (nI a) v)
def bqF (g : Nat → Nat) : Nat → Int32 × Nat
  | 0 => (-1, 11)
  | r + 1 => if g r < (bqF g r).2 then (nI r, g r) else bqF g r
def bqA (bits x : Int32) : Int32 := if bits = 0 then -1 else x
def kwF (fn : Nat → Int32) : Nat → Nat
  | 0 => 0
  | k + 1 => if fn k = -1 then kwF fn k else kwF fn k + 1
def ulF (fn : Nat → Int32) : Nat → Int32
  | 0 => nI 0
  | k + 1 => if fn k = -1 then ulF fn k else ulF fn k ||| (nI 1 <<< (fn k &&& 31))
def ioF (fi : Nat → Int32) : Nat → Nat
  | 0 => 0
  | k + 1 => if fi k = 0 then ioF fi k else ioF fi k + 1
def htF (fk fs fi : Nat → Int32) : Nat → (Nat → Int32) → Nat → (Nat → Int32) × Nat
  | 0, fn, t => (fn, t)
  | k + 1, fn, t => if ttP fk fs fn fi (k + 1) then htF fk fs fi k (upd fn (k + 1) (wt fk fs fn fi k)) (t + 1) else htF fk fs fi k fn t
def nx (x : Nat) : Nat := (1103515245 * x + 12345) % 2147483648
def ilF (q n : Nat) (fi : Nat → Int32) : Nat → Int32 := fun i => if i < n then (if i = q then nI 1 else nI 0) else fi i
theorem nI_ne_m1 {j : Nat} (h : j < 2 ^ 31) : ¬ nI j = -1 := by
  intro q
  have h2 := congrArg Int32.toInt q
  rw [nI_toInt h] at h2
  have h3 : (-1 : Int32).toInt = -1 := rfl
  omega
theorem cuF_no {fs : Nat → Int32} {j : Nat} (h : j < 2 ^ 31) : cuF fs (-1) j = fs j := if_neg (nI_ne_m1 h)
theorem atF_cong {fk fk' fs fs' : Nat → Int32} : ∀ (d k : Nat) (v : Int32), (∀ j, k ≤ j → j < k + d → fk j = fk' j ∧ fs j = fs' j) → atF fk fs k d v = atF fk' fs' k d v
  | 0, _, _, _ => rfl
  | d + 1, k, v, h => by
    rw [atF, atF, (h k (Nat.le_refl _) (by omega)).1, (h k (Nat.le_refl _) (by omega)).2]
    exact atF_cong d (k + 1) _ (fun j h1 h2 => h j (by omega) (by omega))
theorem atF_cu {fk fs : Nat → Int32} {k d : Nat} {v : Int32} (h : k + d < 2 ^ 31) : atF fk (cuF fs (-1)) k d v = atF fk fs k d v :=
  atF_cong d k v (fun j _ h2 => ⟨rfl, cuF_no (by omega)⟩)
theorem ucF_cong {fk fk' fs fs' : Nat → Int32} {n : Nat} (h : ∀ j, j < n → fk j = fk' j ∧ fs j = fs' j) : ucF fk fs n = ucF fk' fs' n := by
  unfold ucF
  congr 1
  funext r
  exact atF_cong (n - 1) 0 (nI r) (fun j _ h2 => h j (by omega))
theorem ucF_no {fk fs : Nat → Int32} {n : Nat} (h : n ≤ 6) : ucF fk (cuF fs (-1)) n = ucF fk fs n :=
  ucF_cong (fun j hj => ⟨rfl, cuF_no (by omega)⟩)
theorem has_iff {n : Nat} {c : Int32} (hn : n < 2 ^ 31) : inR n c ↔ ¬ c < 0 ∧ ¬ nI n ≤ c := by
  rw [Int32.lt_iff_toInt_lt, Int32.le_iff_toInt_le, nI_toInt hn]
  have h3 : (0 : Int32).toInt = 0 := rfl
  unfold inR
  omega
theorem dn_s {i : Nat} : dn (i + 1) = nI i := nI_pred i
theorem dn_top {n : Nat} (h : 1 ≤ n) : nI (n - 1) = dn n := by
  obtain ⟨i, rfl⟩ : ∃ i, n = i + 1 := ⟨n - 1, by omega⟩
  exact dn_s.symm
theorem dn_b {i : Nat} : nI i + Int32.ofInt (-1) = dn i := by
  show nI i + Int32.ofInt (-1) = nI i - nI 1
  rw [Int32.sub_eq_add_neg]
  rfl
theorem dn_0 : dn 0 = -1 := rfl
theorem dn_pos {j : Nat} (h : ¬ dn j < 0) (hj : j < 2 ^ 31) : ∃ i, j = i + 1 := by
  cases j with
  | zero => exact absurd (by decide) h
  | succ i => exact ⟨i, rfl⟩
theorem dn_neg {j : Nat} (h : dn j < 0) (hj : j < 2 ^ 31) : j = 0 := by
  cases j with
  | zero => rfl
  | succ i => rw [dn_s] at h; exact absurd h (nI_pos (by omega))
theorem lbF_le {b k r x : Int32} {v : Nat} : lbF b k r x v ≤ v := by
  induction v with
  | zero => exact Nat.le_refl _
  | succ v ih => rw [lbF]; split <;> omega
theorem wlF_le {b k r : Int32} {v a : Nat} : wlF b k r v a ≤ v := by
  induction a with
  | zero => exact Nat.zero_le _
  | succ a ih => rw [wlF]; exact Nat.max_le.mpr ⟨ih, lbF_le⟩
theorem w_max {x y : Nat} (hx : x < 2 ^ 31) (hy : y < 2 ^ 31) : (if nI x < nI y then nI y else nI x) = nI (Nat.max x y) := by
  by_cases h : x < y
  · rw [if_pos ((nI_ltI hx hy).mpr h), show Nat.max x y = y from Nat.max_eq_right (Nat.le_of_lt h)]
  · rw [if_neg (fun q => h ((nI_ltI hx hy).mp q)), show Nat.max x y = x from Nat.max_eq_left (Nat.le_of_not_lt h)]
theorem w_min {x y : Nat} (hx : x < 2 ^ 31) (hy : y < 2 ^ 31) : (if nI y < nI x then nI y else nI x) = nI (Nat.min x y) := by
  by_cases h : y < x
  · rw [if_pos ((nI_ltI hy hx).mpr h), show Nat.min x y = y from Nat.min_eq_right (Nat.le_of_lt h)]
  · rw [if_neg (fun q => h ((nI_ltI hy hx).mp q)), show Nat.min x y = x from Nat.min_eq_left (Nat.le_of_not_lt h)]
theorem bqA0 {bits : Int32} {g : Nat → Nat} {k : Nat} (h : bits = 0) (hb : k = 0 ∨ ¬ bits = 0) : (bqF g k).1 = bqA bits (bqF g 12).1 := by
  rcases hb with rfl | hb
  · rw [bqA, if_pos h]; rfl
  · exact absurd h hb
theorem bqA1 {bits : Int32} {g : Nat → Nat} {k : Nat} (h : k = 12) (hb : k = 0 ∨ ¬ bits = 0) : (bqF g k).1 = bqA bits (bqF g 12).1 := by
  subst h
  rcases hb with hb | hb
  · exact absurd hb (by decide)
  · rw [bqA, if_neg hb]
theorem htF_t {fk fs fi fn : Nat → Int32} {k t : Nat} (h : ttP fk fs fn fi (k + 1)) : htF fk fs fi (k + 1) fn t = htF fk fs fi k (upd fn (k + 1) (wt fk fs fn fi k)) (t + 1) := by
  rw [htF, if_pos h]
theorem htF_f {fk fs fi fn : Nat → Int32} {k t : Nat} (h : ¬ ttP fk fs fn fi (k + 1)) : htF fk fs fi (k + 1) fn t = htF fk fs fi k fn t := by
  rw [htF, if_neg h]
theorem ilF_0 {q : Nat} {fi : Nat → Int32} : ilF q 0 fi = fi := by
  funext i
  simp [ilF]
theorem ilF_t {q k : Nat} {fi : Nat → Int32} (h : k = q) : upd (ilF q k fi) k (nI 1) = ilF q (k + 1) fi := by
  funext i
  unfold upd ilF
  by_cases h1 : i = k
  · subst h1; rw [if_pos rfl, if_pos (Nat.lt_succ_self _), if_pos h]
  · rw [if_neg h1]
    by_cases h2 : i < k
    · rw [if_pos h2, if_pos (show i < k + 1 by omega)]
    · rw [if_neg h2, if_neg (show ¬ i < k + 1 by omega)]
theorem ilF_f {q k : Nat} {fi : Nat → Int32} (h : ¬ k = q) : upd (ilF q k fi) k (nI 0) = ilF q (k + 1) fi := by
  funext i
  unfold upd ilF
  by_cases h1 : i = k
  · subst h1; rw [if_pos rfl, if_pos (Nat.lt_succ_self _), if_neg h]
  · rw [if_neg h1]
    by_cases h2 : i < k
    · rw [if_pos h2, if_pos (show i < k + 1 by omega)]
    · rw [if_neg h2, if_neg (show ¬ i < k + 1 by omega)]
theorem nx_lt {x : Nat} : nx x < 2147483648 := Nat.mod_lt _ (by decide)
theorem nx_eq {x : Nat} (h : x < 2147483648) : ((((1103515245 : Int64)) * (lN x)) + ((12345 : Int64))) - ((((1103515245 : Int64)) * (lN x)) + ((12345 : Int64))) / ((2147483648 : Int64)) * ((2147483648 : Int64)) = lN (nx x) := by
  rw [show (1103515245 : Int64) = lN 1103515245 from rfl, show (12345 : Int64) = lN 12345 from rfl, show (2147483648 : Int64) = lN 2147483648 from rfl, lN_mul, lN_add]
  rw [pk_lRem (by omega) (by decide) (by decide)]
  rfl
theorem nx_draw {x o : Nat} (h : x < 2147483648) (h1 : 1 ≤ o) (ho : o < 2147483648) : Int64.toInt32 (((lN (nx x)) / ((65536 : Int64))) - ((lN (nx x)) / ((65536 : Int64))) / (lN o) * (lN o)) = nI (nx x / 65536 % o) := by
  have hx := nx_lt (x := x)
  rw [show (65536 : Int64) = lN 65536 from rfl, pk_lDiv (by omega) (by decide) (by decide), pk_lRem (by omega) (by omega) (by omega), lN_i]
theorem unF_le {f : Nat → Int32} {k : Nat} : unF f k ≤ k := by
  induction k with
  | zero => exact Nat.le_refl _
  | succ k ih => rw [unF]; split <;> omega
theorem ucF_le {fk fs : Nat → Int32} {n : Nat} : ucF fk fs n ≤ 12 := unF_le
theorem bcF_le {fk fs : Nat → Int32} {n k : Nat} : (bcF (fun i => ucF fk (cuF fs (nI i)) n) (ucF fk fs n) k).2 ≤ 12 := by
  induction k with
  | zero => exact ucF_le
  | succ k ih =>
    rw [bcF]
    split
    · exact ucF_le
    · exact ih
theorem bqF_le {g : Nat → Nat} {k : Nat} : (bqF g k).2 ≤ 11 := by
  induction k with
  | zero => exact Nat.le_refl _
  | succ k ih =>
    rw [bqF]
    split
    · rename_i h
      show g k ≤ 11
      omega
    · exact ih
end
section
set_option maxHeartbeats 4000000 in
set_option maxRecDepth 100000 in
/-- Kind.isA -/
theorem k_X1_isA (l : Launch) (dC : Nat → ClassId) (dI : Nat → Nat → Nat) (cI cZ : ClassId) (k : Int32) (o : Int32) : Met l yX1_isA wsX1_isA ({ frames := 0, cells := 0, slots := 0, locals := 0 }) (va_Pc [.int (k), .int (o)] (PR (dC, dI) cI cZ [])) (QRi ((if (o = nI 0 ∨ k = o ∨ (k = nI 4 ∧ o = nI 1)) then nI 1 else nI 0))) 0 0 noF := by
  refine Met.ofW (cc := cX1_isA) (maxL := 2) (ret := (some .boolean)) (by decide) rfl ?_
  intro p e s m args below meth co s₁ B hml hv
  obtain ⟨rfl, hP, hK⟩ := hv
  have hx := B.exec
  have hb := B.bytes
  have hr := B.returns
  have hts := atoms_spec (ws := wsX1_isA) B.pre
  have hown : s.vm.findClass RX1 = some m.cls := findClass_of_methodNamed B.named
  have hlocks := B.notSynchronized
  have hl := lv_entry ([.int (k), .int (o)]) (n := 2) (Nat.le_of_ble_eq_true rfl)
  rw [lg_entry_eq]
  generalize (lg_sl ([.int (k), .int (o)]) ++ List.replicate (2 - (lg_sl ([.int (k), .int (o)])).length) Slot.unset).toArray = ls at hl ⊢
  have hl : lv_has ls 2 [(0, .int (k)), (1, .int (o))] := hl
  refine lv_iload_n hx hb dX1_isA_0 rfl (lv_at hl 1 rfl) ?_
  refine lv_if_eq (tgt := 19) hx hb dX1_isA_1 (by decide) (fun c_1 => ?_) (fun c_1 => ?_)
  · skip
    refine lv_iconst (v := nI 1) hx hb dX1_isA_19 (by decide) ?_
    refine lv_goto (tgt := 24) hx hb dX1_isA_20 (by decide) ?_
    exact retRz hx hb hr hlocks rfl (by simp_all [nI]) dX1_isA_24
  · skip
    refine lv_iload_n hx hb dX1_isA_4 rfl (lv_at hl 0 rfl) ?_
    refine lv_iload_n hx hb dX1_isA_5 rfl (lv_at hl 1 rfl) ?_
    refine lv_icmp_eq (tgt := 19) hx hb dX1_isA_6 (by decide) (fun c_2 => ?_) (fun c_2 => ?_)
    · skip
      refine lv_iconst (v := nI 1) hx hb dX1_isA_19 (by decide) ?_
      refine lv_goto (tgt := 24) hx hb dX1_isA_20 (by decide) ?_
      exact retRz hx hb hr hlocks rfl (by simp_all [nI]) dX1_isA_24
    · skip
      refine lv_iload_n hx hb dX1_isA_9 rfl (lv_at hl 0 rfl) ?_
      refine lv_iconst (v := nI 4) hx hb dX1_isA_10 (by decide) ?_
      refine lv_icmp_ne (tgt := 23) hx hb dX1_isA_11 (by decide) (fun c_3 => ?_) (fun c_3 => ?_)
      · skip
        refine lv_iconst (v := nI 0) hx hb dX1_isA_23 (by decide) ?_
        exact retRz hx hb hr hlocks rfl (by simp_all [nI]) dX1_isA_24
      · skip
        refine lv_iload_n hx hb dX1_isA_14 rfl (lv_at hl 1 rfl) ?_
        refine lv_iconst (v := nI 1) hx hb dX1_isA_15 (by decide) ?_
        refine lv_icmp_ne (tgt := 23) hx hb dX1_isA_16 (by decide) (fun c_4 => ?_) (fun c_4 => ?_)
        · skip
          refine lv_iconst (v := nI 0) hx hb dX1_isA_23 (by decide) ?_
          exact retRz hx hb hr hlocks rfl (by simp_all [nI]) dX1_isA_24
        · skip
          refine lv_iconst (v := nI 1) hx hb dX1_isA_19 (by decide) ?_
          refine lv_goto (tgt := 24) hx hb dX1_isA_20 (by decide) ?_
          exact retRz hx hb hr hlocks rfl (by simp_all [nI]) dX1_isA_24
set_option maxHeartbeats 4000000 in
set_option maxRecDepth 100000 in
/-- Kind.passesOn -/
theorem k_X1_passesOn (l : Launch) (dC : Nat → ClassId) (dI : Nat → Nat → Nat) (cI cZ : ClassId) (k : Int32) (sl : Int32) (r : Int32) : Met l yX1_passesOn wsX1_passesOn ({ frames := 0, cells := 0, slots := 0, locals := 0 }) (va_Pc [.int (k), .int (sl), .int (r)] (PR (dC, dI) cI cZ [])) (QRi ((tb k sl r))) 0 0 noF := by
  refine Met.ofW (cc := cX1_passesOn) (maxL := 3) (ret := (some .int)) (by decide) rfl ?_
  intro p e s m args below meth co s₁ B hml hv
  obtain ⟨rfl, hP, hK⟩ := hv
  have hx := B.exec
  have hb := B.bytes
  have hr := B.returns
  have hts := atoms_spec (ws := wsX1_passesOn) B.pre
  have hown : s.vm.findClass RX1 = some m.cls := findClass_of_methodNamed B.named
  have hlocks := B.notSynchronized
  have hl := lv_entry ([.int (k), .int (sl), .int (r)]) (n := 3) (Nat.le_of_ble_eq_true rfl)
  rw [lg_entry_eq]
  generalize (lg_sl ([.int (k), .int (sl), .int (r)]) ++ List.replicate (3 - (lg_sl ([.int (k), .int (sl), .int (r)])).length) Slot.unset).toArray = ls at hl ⊢
  have hl : lv_has ls 3 [(0, .int (k)), (1, .int (sl)), (2, .int (r))] := hl
  refine lv_iload_n hx hb dX1_passesOn_0 rfl (lv_at hl 0 rfl) ?_
  by_cases w_1 : k = nI 1
  · skip
    refine lv_tableIn (tgt := 32) hx hb dX1_passesOn_1 (by rw [w_1]; decide) (by rw [w_1]; decide) (by rw [w_1]; rfl) (by decide) ?_
    refine lv_iload_n hx hb dX1_passesOn_32 rfl (lv_at hl 2 rfl) ?_
    exact retRi hx hb hr hlocks (by simp_all [tb, nI]) dX1_passesOn_33
  by_cases w_2 : k = nI 2
  · skip
    refine lv_tableIn (tgt := 34) hx hb dX1_passesOn_1 (by rw [w_2]; decide) (by rw [w_2]; decide) (by rw [w_2]; rfl) (by decide) ?_
    refine lv_iload_n hx hb dX1_passesOn_34 rfl (lv_at hl 1 rfl) ?_
    refine lv_bipush (v := nI 12) hx hb dX1_passesOn_35 (by decide) ?_
    refine lv_iadd hx hb dX1_passesOn_37 ?_
    refine lv_iload_n hx hb dX1_passesOn_38 rfl (lv_at hl 2 rfl) ?_
    refine lv_isub hx hb dX1_passesOn_39 ?_
    refine lv_bipush (v := nI 12) hx hb dX1_passesOn_40 (by decide) ?_
    refine w_rem hx hb (by decide) dX1_passesOn_42 ?_
    exact retRi hx hb hr hlocks (by simp_all [tb, nI]) dX1_passesOn_43
  by_cases w_3 : k = nI 3
  · skip
    refine lv_tableIn (tgt := 44) hx hb dX1_passesOn_1 (by rw [w_3]; decide) (by rw [w_3]; decide) (by rw [w_3]; rfl) (by decide) ?_
    refine lv_iload_n hx hb dX1_passesOn_44 rfl (lv_at hl 2 rfl) ?_
    refine lv_iload_n hx hb dX1_passesOn_45 rfl (lv_at hl 2 rfl) ?_
    refine lv_iconst (v := nI 2) hx hb dX1_passesOn_46 (by decide) ?_
    refine w_rem hx hb (by decide) dX1_passesOn_47 ?_
    refine lv_isub hx hb dX1_passesOn_48 ?_
    refine lv_iload_n hx hb dX1_passesOn_49 rfl (lv_at hl 1 rfl) ?_
    refine lv_iadd hx hb dX1_passesOn_50 ?_
    refine lv_bipush (v := nI 12) hx hb dX1_passesOn_51 (by decide) ?_
    refine w_rem hx hb (by decide) dX1_passesOn_53 ?_
    exact retRi hx hb hr hlocks (by simp_all [tb, nI]) dX1_passesOn_54
  by_cases w_4 : k = nI 4
  · skip
    refine lv_tableIn (tgt := 55) hx hb dX1_passesOn_1 (by rw [w_4]; decide) (by rw [w_4]; decide) (by rw [w_4]; rfl) (by decide) ?_
    refine lv_iconst (v := nI 2) hx hb dX1_passesOn_55 (by decide) ?_
    refine lv_iload_n hx hb dX1_passesOn_56 rfl (lv_at hl 2 rfl) ?_
    refine lv_imul hx hb dX1_passesOn_57 ?_
    refine lv_bipush (v := nI 12) hx hb dX1_passesOn_58 (by decide) ?_
    refine w_rem hx hb (by decide) dX1_passesOn_60 ?_
    exact retRi hx hb hr hlocks (by simp_all [tb, nI]) dX1_passesOn_61
  have hsw : ¬ k = nI 1 ∧ ¬ k = nI 2 ∧ ¬ k = nI 3 ∧ ¬ k = nI 4 := ⟨w_1, w_2, w_3, w_4⟩
  refine lv_tableOut (tgt := 62) hx hb dX1_passesOn_1 (by have z0 := w_tne (k := 1) (by decide) (hsw.1); have z1 := w_tne (k := 2) (by decide) (hsw.2.1); have z2 := w_tne (k := 3) (by decide) (hsw.2.2.1); have z3 := w_tne (k := 4) (by decide) (hsw.2.2.2); omega) (by decide) ?_
  refine lv_iload_n hx hb dX1_passesOn_62 rfl (lv_at hl 2 rfl) ?_
  refine lv_iload_n hx hb dX1_passesOn_63 rfl (lv_at hl 1 rfl) ?_
  refine lv_iadd hx hb dX1_passesOn_64 ?_
  refine lv_bipush (v := nI 12) hx hb dX1_passesOn_65 (by decide) ?_
  refine w_rem hx hb (by decide) dX1_passesOn_67 ?_
  exact retRi hx hb hr hlocks (by simp_all [tb, nI]) dX1_passesOn_68
set_option maxHeartbeats 4000000 in
set_option maxRecDepth 100000 in
theorem k_X3_isNone (l : Launch) (dC : Nat → ClassId) (dI : Nat → Nat → Nat) (cI cZ : ClassId) (q0 q1 q2 q3 q4 q5 q6 q7 : Nat) (fk fs fn fi fc fw ft : Nat → Int32) (n h : Nat) (th tt : Int32) (hn6 : n ≤ 6) : Met l yX3_isNone wsX3_isNone ({ frames := 0, cells := 0, slots := 0, locals := 0 }) (va_Pc [.ref q0] (PR (dC, dI) cI cZ [(q0, .inr (2, [.ref q1, .ref q2, .ref q3, .ref q4, .ref q5, .ref q6, .ref q7, .int (nI n), .int (nI h), .int (th), .int (tt)])), (q1, .inl (cI, 6, .inl (fk))), (q2, .inl (cI, 6, .inl (fs))), (q3, .inl (cI, 6, .inl (fn))), (q4, .inl (cZ, 6, .inl (fi))), (q5, .inl (cI, 8, .inl (fc))), (q6, .inl (cI, 8, .inl (fw))), (q7, .inl (cI, 8, .inl (ft)))])) (QRi ((if (n = 0) then nI 1 else nI 0))) 0 0 noF := by
  refine Met.ofW (cc := cX3_isNone) (maxL := 1) (ret := (some .boolean)) (by decide) rfl ?_
  intro p e s m args below meth co s₁ B hml hv
  obtain ⟨rfl, hP, hK⟩ := hv
  have hx := B.exec
  have hb := B.bytes
  have hr := B.returns
  have hts := atoms_spec (ws := wsX3_isNone) B.pre
  have hown : s.vm.findClass RX3 = some m.cls := findClass_of_methodNamed B.named
  have hlocks := B.notSynchronized
  have inX3 : ∀ w ∈ u_ws RX3 TX3 11, w ∈ wsX3_isNone := by decide +kernel
  have lf34 := hts (.fieldLink RX3 34 "ThursdayRungs$School" "size" "I") (by decide +kernel)
  have hl := lv_entry ([.ref q0]) (n := 1) (Nat.le_of_ble_eq_true rfl)
  rw [lg_entry_eq]
  generalize (lg_sl ([.ref q0]) ++ List.replicate (1 - (lg_sl ([.ref q0])).length) Slot.unset).toArray = ls at hl ⊢
  have hl : lv_has ls 1 [(0, .ref q0)] := hl
  refine lv_aload_n hx hb dX3_isNone_0 rfl (lv_at hl 0 rfl) ?_
  refine va_get (D := (dC, dI)) (ci := 2) (v := .int (nI n)) (C := RX3) (T := TX3) (N := 11) hx hb hts inX3 hown hK hP 0 rfl rfl 7 (by decide) lf34 (fun _ h9 => h9) rfl dX3_isNone_1 ?_
  refine w_ifneN (tgt := 11) hx hb (by omega) dX3_isNone_4 (by decide) (fun c_1 => ?_) (fun c_1 => ?_)
  · skip
    refine lv_iconst (v := nI 0) hx hb dX3_isNone_11 (by decide) ?_
    exact retRz hx hb hr hlocks rfl (by simp_all) dX3_isNone_12
  · skip
    refine lv_iconst (v := nI 1) hx hb dX3_isNone_7 (by decide) ?_
    refine lv_goto (tgt := 12) hx hb dX3_isNone_8 (by decide) ?_
    exact retRz hx hb hr hlocks rfl (by simp_all) dX3_isNone_12
set_option maxHeartbeats 4000000 in
set_option maxRecDepth 100000 in
theorem k_X3_has (l : Launch) (dC : Nat → ClassId) (dI : Nat → Nat → Nat) (cI cZ : ClassId) (q0 q1 q2 q3 q4 q5 q6 q7 : Nat) (fk fs fn fi fc fw ft : Nat → Int32) (n h : Nat) (th tt : Int32) (c : Int32) (hn6 : n ≤ 6) : Met l yX3_has wsX3_has ({ frames := 0, cells := 0, slots := 0, locals := 0 }) (va_Pc [.ref q0, .int (c)] (PR (dC, dI) cI cZ [(q0, .inr (2, [.ref q1, .ref q2, .ref q3, .ref q4, .ref q5, .ref q6, .ref q7, .int (nI n), .int (nI h), .int (th), .int (tt)])), (q1, .inl (cI, 6, .inl (fk))), (q2, .inl (cI, 6, .inl (fs))), (q3, .inl (cI, 6, .inl (fn))), (q4, .inl (cZ, 6, .inl (fi))), (q5, .inl (cI, 8, .inl (fc))), (q6, .inl (cI, 8, .inl (fw))), (q7, .inl (cI, 8, .inl (ft)))])) (QRi ((if (inR n c) then nI 1 else nI 0))) 0 0 noF := by
  refine Met.ofW (cc := cX3_has) (maxL := 2) (ret := (some .boolean)) (by decide) rfl ?_
  intro p e s m args below meth co s₁ B hml hv
  obtain ⟨rfl, hP, hK⟩ := hv
  have hx := B.exec
  have hb := B.bytes
  have hr := B.returns
  have hts := atoms_spec (ws := wsX3_has) B.pre
  have hown : s.vm.findClass RX3 = some m.cls := findClass_of_methodNamed B.named
  have hlocks := B.notSynchronized
  have inX3 : ∀ w ∈ u_ws RX3 TX3 11, w ∈ wsX3_has := by decide +kernel
  have lf34 := hts (.fieldLink RX3 34 "ThursdayRungs$School" "size" "I") (by decide +kernel)
  have hl := lv_entry ([.ref q0, .int (c)]) (n := 2) (Nat.le_of_ble_eq_true rfl)
  rw [lg_entry_eq]
  generalize (lg_sl ([.ref q0, .int (c)]) ++ List.replicate (2 - (lg_sl ([.ref q0, .int (c)])).length) Slot.unset).toArray = ls at hl ⊢
  have hl : lv_has ls 2 [(0, .ref q0), (1, .int (c))] := hl
  refine lv_iload_n hx hb dX3_has_0 rfl (lv_at hl 1 rfl) ?_
  refine lv_if_lt (tgt := 16) hx hb dX3_has_1 (by decide) (fun c_1 => ?_) (fun c_1 => ?_)
  · skip
    refine lv_iconst (v := nI 0) hx hb dX3_has_16 (by decide) ?_
    exact retRz hx hb hr hlocks rfl (by simp_all [has_iff (c := c) (show n < 2 ^ 31 by omega)]) dX3_has_17
  · skip
    refine lv_iload_n hx hb dX3_has_4 rfl (lv_at hl 1 rfl) ?_
    refine lv_aload_n hx hb dX3_has_5 rfl (lv_at hl 0 rfl) ?_
    refine va_get (D := (dC, dI)) (ci := 2) (v := .int (nI n)) (C := RX3) (T := TX3) (N := 11) hx hb hts inX3 hown hK hP 0 rfl rfl 7 (by decide) lf34 (fun _ h9 => h9) rfl dX3_has_6 ?_
    refine lv_icmp_ge (tgt := 16) hx hb dX3_has_9 (by decide) (fun c_2 => ?_) (fun c_2 => ?_)
    · skip
      refine lv_iconst (v := nI 0) hx hb dX3_has_16 (by decide) ?_
      exact retRz hx hb hr hlocks rfl (by simp_all [has_iff (c := c) (show n < 2 ^ 31 by omega)]) dX3_has_17
    · skip
      refine lv_iconst (v := nI 1) hx hb dX3_has_12 (by decide) ?_
      refine lv_goto (tgt := 17) hx hb dX3_has_13 (by decide) ?_
      exact retRz hx hb hr hlocks rfl (by simp_all [has_iff (c := c) (show n < 2 ^ 31 by omega)]) dX3_has_17
set_option maxHeartbeats 4000000 in
set_option maxRecDepth 100000 in
theorem k_X3_top (l : Launch) (dC : Nat → ClassId) (dI : Nat → Nat → Nat) (cI cZ : ClassId) (q0 q1 q2 q3 q4 q5 q6 q7 : Nat) (fk fs fn fi fc fw ft : Nat → Int32) (n h : Nat) (th tt : Int32) (hn1 : 1 ≤ n) (hn6 : n ≤ 6) : Met l yX3_top wsX3_top ({ frames := 0, cells := 0, slots := 0, locals := 0 }) (va_Pc [.ref q0] (PR (dC, dI) cI cZ [(q0, .inr (2, [.ref q1, .ref q2, .ref q3, .ref q4, .ref q5, .ref q6, .ref q7, .int (nI n), .int (nI h), .int (th), .int (tt)])), (q1, .inl (cI, 6, .inl (fk))), (q2, .inl (cI, 6, .inl (fs))), (q3, .inl (cI, 6, .inl (fn))), (q4, .inl (cZ, 6, .inl (fi))), (q5, .inl (cI, 8, .inl (fc))), (q6, .inl (cI, 8, .inl (fw))), (q7, .inl (cI, 8, .inl (ft)))])) (QRi (nI (n - 1))) 0 0 noF := by
  refine Met.ofW (cc := cX3_top) (maxL := 1) (ret := (some .int)) (by decide) rfl ?_
  intro p e s m args below meth co s₁ B hml hv
  obtain ⟨rfl, hP, hK⟩ := hv
  have hx := B.exec
  have hb := B.bytes
  have hr := B.returns
  have hts := atoms_spec (ws := wsX3_top) B.pre
  have hown : s.vm.findClass RX3 = some m.cls := findClass_of_methodNamed B.named
  have hlocks := B.notSynchronized
  have inX3 : ∀ w ∈ u_ws RX3 TX3 11, w ∈ wsX3_top := by decide +kernel
  have lf34 := hts (.fieldLink RX3 34 "ThursdayRungs$School" "size" "I") (by decide +kernel)
  have hl := lv_entry ([.ref q0]) (n := 1) (Nat.le_of_ble_eq_true rfl)
  rw [lg_entry_eq]
  generalize (lg_sl ([.ref q0]) ++ List.replicate (1 - (lg_sl ([.ref q0])).length) Slot.unset).toArray = ls at hl ⊢
  have hl : lv_has ls 1 [(0, .ref q0)] := hl
  refine lv_aload_n hx hb dX3_top_0 rfl (lv_at hl 0 rfl) ?_
  refine va_get (D := (dC, dI)) (ci := 2) (v := .int (nI n)) (C := RX3) (T := TX3) (N := 11) hx hb hts inX3 hown hK hP 0 rfl rfl 7 (by decide) lf34 (fun _ h9 => h9) rfl dX3_top_1 ?_
  refine lv_iconst (v := nI 1) hx hb dX3_top_4 (by decide) ?_
  refine w_subN hx hb (by omega) dX3_top_5 ?_
  exact retRi hx hb hr hlocks rfl dX3_top_6
set_option maxHeartbeats 4000000 in
set_option maxRecDepth 100000 in
theorem k_X3_isHeardFull (l : Launch) (dC : Nat → ClassId) (dI : Nat → Nat → Nat) (cI cZ : ClassId) (q0 q1 q2 q3 q4 q5 q6 q7 : Nat) (fk fs fn fi fc fw ft : Nat → Int32) (n h : Nat) (th tt : Int32) (hh8 : h ≤ 8) : Met l yX3_isHeardFull wsX3_isHeardFull ({ frames := 0, cells := 0, slots := 0, locals := 0 }) (va_Pc [.ref q0] (PR (dC, dI) cI cZ [(q0, .inr (2, [.ref q1, .ref q2, .ref q3, .ref q4, .ref q5, .ref q6, .ref q7, .int (nI n), .int (nI h), .int (th), .int (tt)])), (q1, .inl (cI, 6, .inl (fk))), (q2, .inl (cI, 6, .inl (fs))), (q3, .inl (cI, 6, .inl (fn))), (q4, .inl (cZ, 6, .inl (fi))), (q5, .inl (cI, 8, .inl (fc))), (q6, .inl (cI, 8, .inl (fw))), (q7, .inl (cI, 8, .inl (ft)))])) (QRi ((if (8 ≤ h) then nI 1 else nI 0))) 0 0 noF := by
  refine Met.ofW (cc := cX3_isHeardFull) (maxL := 1) (ret := (some .boolean)) (by decide) rfl ?_
  intro p e s m args below meth co s₁ B hml hv
  obtain ⟨rfl, hP, hK⟩ := hv
  have hx := B.exec
  have hb := B.bytes
  have hr := B.returns
  have hts := atoms_spec (ws := wsX3_isHeardFull) B.pre
  have hown : s.vm.findClass RX3 = some m.cls := findClass_of_methodNamed B.named
  have hlocks := B.notSynchronized
  have inX3 : ∀ w ∈ u_ws RX3 TX3 11, w ∈ wsX3_isHeardFull := by decide +kernel
  have lf38 := hts (.fieldLink RX3 38 "ThursdayRungs$School" "heard" "I") (by decide +kernel)
  have hl := lv_entry ([.ref q0]) (n := 1) (Nat.le_of_ble_eq_true rfl)
  rw [lg_entry_eq]
  generalize (lg_sl ([.ref q0]) ++ List.replicate (1 - (lg_sl ([.ref q0])).length) Slot.unset).toArray = ls at hl ⊢
  have hl : lv_has ls 1 [(0, .ref q0)] := hl
  refine lv_aload_n hx hb dX3_isHeardFull_0 rfl (lv_at hl 0 rfl) ?_
  refine va_get (D := (dC, dI)) (ci := 2) (v := .int (nI h)) (C := RX3) (T := TX3) (N := 11) hx hb hts inX3 hown hK hP 0 rfl rfl 8 (by decide) lf38 (fun _ h9 => h9) rfl dX3_isHeardFull_1 ?_
  refine lv_bipush (v := nI 8) hx hb dX3_isHeardFull_4 (by decide) ?_
  refine w_ci_lt (tgt := 13) hx hb (by omega) (by omega) dX3_isHeardFull_6 (by decide) (fun c_1 => ?_) (fun c_1 => ?_)
  · skip
    refine lv_iconst (v := nI 0) hx hb dX3_isHeardFull_13 (by decide) ?_
    exact retRz hx hb hr hlocks rfl (by simp_all; try omega) dX3_isHeardFull_14
  · skip
    refine lv_iconst (v := nI 1) hx hb dX3_isHeardFull_9 (by decide) ?_
    refine lv_goto (tgt := 14) hx hb dX3_isHeardFull_10 (by decide) ?_
    exact retRz hx hb hr hlocks rfl (by simp_all; try omega) dX3_isHeardFull_14
end
section
set_option maxHeartbeats 4000000 in
set_option maxRecDepth 100000 in
theorem k_X3_taughtNowBy (l : Launch) (dC : Nat → ClassId) (dI : Nat → Nat → Nat) (cI cZ : ClassId) (q0 q1 q2 q3 q4 q5 q6 q7 : Nat) (fk fs fn fi fc fw ft : Nat → Int32) (n h : Nat) (th tt : Int32) (c : Nat) (hc : c < 6) : Met l yX3_taughtNowBy wsX3_taughtNowBy ({ frames := 1, cells := 0, slots := 0, locals := 22 }) (va_Pc [.ref q0, .int (nI c)] (PR (dC, dI) cI cZ [(q0, .inr (2, [.ref q1, .ref q2, .ref q3, .ref q4, .ref q5, .ref q6, .ref q7, .int (nI n), .int (nI h), .int (th), .int (tt)])), (q1, .inl (cI, 6, .inl (fk))), (q2, .inl (cI, 6, .inl (fs))), (q3, .inl (cI, 6, .inl (fn))), (q4, .inl (cZ, 6, .inl (fi))), (q5, .inl (cI, 8, .inl (fc))), (q6, .inl (cI, 8, .inl (fw))), (q7, .inl (cI, 8, .inl (ft)))])) (QRi ((wt fk fs fn fi c))) 0 0 noF := by
  refine Met.ofW (cc := cX3_taughtNowBy) (maxL := 2) (ret := (some .int)) (by decide) rfl ?_
  intro p e s m args below meth co s₁ B hml hv
  obtain ⟨rfl, hP, hK⟩ := hv
  have hx := B.exec
  have hb := B.bytes
  have hr := B.returns
  have hts := atoms_spec (ws := wsX3_taughtNowBy) B.pre
  have hown : s.vm.findClass RX3 = some m.cls := findClass_of_methodNamed B.named
  have hlocks := B.notSynchronized
  have inX3 : ∀ w ∈ u_ws RX3 TX3 11, w ∈ wsX3_taughtNowBy := by decide +kernel
  have lf11 := hts (.fieldLink RX3 11 "ThursdayRungs$School" "kinds" "[I") (by decide +kernel)
  have lf15 := hts (.fieldLink RX3 15 "ThursdayRungs$School" "slips" "[I") (by decide +kernel)
  have lf18 := hts (.fieldLink RX3 18 "ThursdayRungs$School" "known" "[I") (by decide +kernel)
  have lf21 := hts (.fieldLink RX3 21 "ThursdayRungs$School" "ill" "[Z") (by decide +kernel)
  have hl := lv_entry ([.ref q0, .int (nI c)]) (n := 2) (Nat.le_of_ble_eq_true rfl)
  rw [lg_entry_eq]
  generalize (lg_sl ([.ref q0, .int (nI c)]) ++ List.replicate (2 - (lg_sl ([.ref q0, .int (nI c)])).length) Slot.unset).toArray = ls at hl ⊢
  have hl : lv_has ls 2 [(0, .ref q0), (1, .int (nI c))] := hl
  refine lv_aload_n hx hb dX3_taughtNowBy_0 rfl (lv_at hl 0 rfl) ?_
  refine va_get (D := (dC, dI)) (ci := 2) (v := .ref q3) (C := RX3) (T := TX3) (N := 11) hx hb hts inX3 hown hK hP 0 rfl rfl 2 (by decide) lf18 (fun _ h9 => h9) rfl dX3_taughtNowBy_1 ?_
  refine lv_iload_n hx hb dX3_taughtNowBy_4 rfl (lv_at hl 1 rfl) ?_
  refine w_iald (k := c) hx hb hK hP 3 0 rfl rfl (by omega) (by decide) dX3_taughtNowBy_5 ?_
  refine lv_iconst (v := -1) hx hb dX3_taughtNowBy_6 (by decide) ?_
  refine lv_icmp_eq (tgt := 19) hx hb dX3_taughtNowBy_7 (by decide) (fun c_1 => ?_) (fun c_1 => ?_)
  · skip
    refine lv_iconst (v := -1) hx hb dX3_taughtNowBy_19 (by decide) ?_
    refine lv_goto (tgt := 44) hx hb dX3_taughtNowBy_20 (by decide) ?_
    exact retRi hx hb hr hlocks (by simp_all [wt, nI]) dX3_taughtNowBy_44
  · skip
    refine lv_aload_n hx hb dX3_taughtNowBy_10 rfl (lv_at hl 0 rfl) ?_
    refine va_get (D := (dC, dI)) (ci := 2) (v := .ref q4) (C := RX3) (T := TX3) (N := 11) hx hb hts inX3 hown hK hP 0 rfl rfl 3 (by decide) lf21 (fun _ h9 => h9) rfl dX3_taughtNowBy_11 ?_
    refine lv_iload_n hx hb dX3_taughtNowBy_14 rfl (lv_at hl 1 rfl) ?_
    refine w_zald (k := c) hx hb hK hP 4 1 rfl rfl (by omega) (by decide) dX3_taughtNowBy_15 ?_
    refine lv_if_eq (tgt := 23) hx hb dX3_taughtNowBy_16 (by decide) (fun c_2 => ?_) (fun c_2 => ?_)
    · skip
      refine lv_aload_n hx hb dX3_taughtNowBy_23 rfl (lv_at hl 0 rfl) ?_
      refine va_get (D := (dC, dI)) (ci := 2) (v := .ref q1) (C := RX3) (T := TX3) (N := 11) hx hb hts inX3 hown hK hP 0 rfl rfl 0 (by decide) lf11 (fun _ h9 => h9) rfl dX3_taughtNowBy_24 ?_
      refine lv_iload_n hx hb dX3_taughtNowBy_27 rfl (lv_at hl 1 rfl) ?_
      refine w_iald (k := c) hx hb hK hP 1 0 rfl rfl (by omega) (by decide) dX3_taughtNowBy_28 ?_
      refine lv_aload_n hx hb dX3_taughtNowBy_29 rfl (lv_at hl 0 rfl) ?_
      refine va_get (D := (dC, dI)) (ci := 2) (v := .ref q2) (C := RX3) (T := TX3) (N := 11) hx hb hts inX3 hown hK hP 0 rfl rfl 1 (by decide) lf15 (fun _ h9 => h9) rfl dX3_taughtNowBy_30 ?_
      refine lv_iload_n hx hb dX3_taughtNowBy_33 rfl (lv_at hl 1 rfl) ?_
      refine w_iald (k := c) hx hb hK hP 2 0 rfl rfl (by omega) (by decide) dX3_taughtNowBy_34 ?_
      refine lv_aload_n hx hb dX3_taughtNowBy_35 rfl (lv_at hl 0 rfl) ?_
      refine va_get (D := (dC, dI)) (ci := 2) (v := .ref q3) (C := RX3) (T := TX3) (N := 11) hx hb hts inX3 hown hK hP 0 rfl rfl 2 (by decide) lf18 (fun _ h9 => h9) rfl dX3_taughtNowBy_36 ?_
      refine lv_iload_n hx hb dX3_taughtNowBy_39 rfl (lv_at hl 1 rfl) ?_
      refine w_iald (k := c) hx hb hK hP 3 0 rfl rfl (by omega) (by decide) dX3_taughtNowBy_40 ?_
      have hPc := hP.sub (ws' := []) [] rfl
      refine callRi (v := (tb (fk c) (fs c) (fn c))) (W.runS (As := [.int (fk c), .int (fs c), .int (fn c)]) (rest := []) ⟨hx, hb, hml, hown, hts⟩ (k_X1_passesOn l dC dI cI cZ (fk c) (fs c) (fn c)) (va_cwS 3 hts gX3_taughtNowBy_X1_passesOn rfl rfl rfl (by decide +kernel) ⟨Nat.le_of_ble_eq_true rfl, Nat.le_of_ble_eq_true rfl⟩) (preRS hK hPc) rfl rfl hl.1 rfl (lv_room (Nat.le_of_ble_eq_true rfl)) dX3_taughtNowBy_41 ⟨Nat.zero_le _, Nat.zero_le _⟩) ?_
      exact retRi hx hb hr hlocks (by simp_all [wt, nI]) dX3_taughtNowBy_44
    · skip
      refine lv_iconst (v := -1) hx hb dX3_taughtNowBy_19 (by decide) ?_
      refine lv_goto (tgt := 44) hx hb dX3_taughtNowBy_20 (by decide) ?_
      exact retRi hx hb hr hlocks (by simp_all [wt, nI]) dX3_taughtNowBy_44
set_option maxHeartbeats 4000000 in
set_option maxRecDepth 100000 in
theorem k_X3_isTaughtNext (l : Launch) (dC : Nat → ClassId) (dI : Nat → Nat → Nat) (cI cZ : ClassId) (q0 q1 q2 q3 q4 q5 q6 q7 : Nat) (fk fs fn fi fc fw ft : Nat → Int32) (n h : Nat) (th tt : Int32) (c : Nat) (hc : c < 6) : Met l yX3_isTaughtNext wsX3_isTaughtNext ({ frames := 2, cells := 0, slots := 0, locals := 43 }) (va_Pc [.ref q0, .int (nI c)] (PR (dC, dI) cI cZ [(q0, .inr (2, [.ref q1, .ref q2, .ref q3, .ref q4, .ref q5, .ref q6, .ref q7, .int (nI n), .int (nI h), .int (th), .int (tt)])), (q1, .inl (cI, 6, .inl (fk))), (q2, .inl (cI, 6, .inl (fs))), (q3, .inl (cI, 6, .inl (fn))), (q4, .inl (cZ, 6, .inl (fi))), (q5, .inl (cI, 8, .inl (fc))), (q6, .inl (cI, 8, .inl (fw))), (q7, .inl (cI, 8, .inl (ft)))])) (QRi ((if (ttP fk fs fn fi c) then nI 1 else nI 0))) 0 0 noF := by
  refine Met.ofW (cc := cX3_isTaughtNext) (maxL := 2) (ret := (some .boolean)) (by decide) rfl ?_
  intro p e s m args below meth co s₁ B hml hv
  obtain ⟨rfl, hP, hK⟩ := hv
  have hx := B.exec
  have hb := B.bytes
  have hr := B.returns
  have hts := atoms_spec (ws := wsX3_isTaughtNext) B.pre
  have hown : s.vm.findClass RX3 = some m.cls := findClass_of_methodNamed B.named
  have hlocks := B.notSynchronized
  have inX3 : ∀ w ∈ u_ws RX3 TX3 11, w ∈ wsX3_isTaughtNext := by decide +kernel
  have lf21 := hts (.fieldLink RX3 21 "ThursdayRungs$School" "ill" "[Z") (by decide +kernel)
  have hl := lv_entry ([.ref q0, .int (nI c)]) (n := 2) (Nat.le_of_ble_eq_true rfl)
  rw [lg_entry_eq]
  generalize (lg_sl ([.ref q0, .int (nI c)]) ++ List.replicate (2 - (lg_sl ([.ref q0, .int (nI c)])).length) Slot.unset).toArray = ls at hl ⊢
  have hl : lv_has ls 2 [(0, .ref q0), (1, .int (nI c))] := hl
  refine lv_iload_n hx hb dX3_isTaughtNext_0 rfl (lv_at hl 1 rfl) ?_
  refine w_ifleN (tgt := 28) hx hb (by omega) dX3_isTaughtNext_1 (by decide) (fun c_1 => ?_) (fun c_1 => ?_)
  · skip
    refine lv_iconst (v := nI 0) hx hb dX3_isTaughtNext_28 (by decide) ?_
    exact retRz hx hb hr hlocks rfl (by simp_all [ttP, nI_0]) dX3_isTaughtNext_29
  · skip
    refine lv_aload_n hx hb dX3_isTaughtNext_4 rfl (lv_at hl 0 rfl) ?_
    refine va_get (D := (dC, dI)) (ci := 2) (v := .ref q4) (C := RX3) (T := TX3) (N := 11) hx hb hts inX3 hown hK hP 0 rfl rfl 3 (by decide) lf21 (fun _ h9 => h9) rfl dX3_isTaughtNext_5 ?_
    refine lv_iload_n hx hb dX3_isTaughtNext_8 rfl (lv_at hl 1 rfl) ?_
    refine w_zald (k := c) hx hb hK hP 4 1 rfl rfl (by omega) (by decide) dX3_isTaughtNext_9 ?_
    refine lv_if_ne (tgt := 28) hx hb dX3_isTaughtNext_10 (by decide) (fun c_2 => ?_) (fun c_2 => ?_)
    · skip
      refine lv_iconst (v := nI 0) hx hb dX3_isTaughtNext_28 (by decide) ?_
      exact retRz hx hb hr hlocks rfl (by simp_all [ttP, nI_0]) dX3_isTaughtNext_29
    · skip
      refine lv_aload_n hx hb dX3_isTaughtNext_13 rfl (lv_at hl 0 rfl) ?_
      refine lv_iload_n hx hb dX3_isTaughtNext_14 rfl (lv_at hl 1 rfl) ?_
      refine lv_iconst (v := nI 1) hx hb dX3_isTaughtNext_15 (by decide) ?_
      refine w_subN hx hb (by omega) dX3_isTaughtNext_16 ?_
      have hPc := hP.sub (ws' := [(q0, .inr (2, [.ref q1, .ref q2, .ref q3, .ref q4, .ref q5, .ref q6, .ref q7, .int (nI n), .int (nI h), .int (th), .int (tt)])), (q1, .inl (cI, 6, .inl (fk))), (q2, .inl (cI, 6, .inl (fs))), (q3, .inl (cI, 6, .inl (fn))), (q4, .inl (cZ, 6, .inl (fi))), (q5, .inl (cI, 8, .inl (fc))), (q6, .inl (cI, 8, .inl (fw))), (q7, .inl (cI, 8, .inl (ft)))]) [0, 1, 2, 3, 4, 5, 6, 7] rfl
      refine callRi (v := (wt fk fs fn fi (c - 1))) (W.runV (As := [.int (nI (c - 1))]) (rest := []) ⟨hx, hb, hml, hown, hts⟩ (k_X3_taughtNowBy l dC dI cI cZ q0 q1 q2 q3 q4 q5 q6 q7 (fk) (fs) (fn) (fi) (fc) (fw) (ft) (n) (h) (th) (tt) (c - 1) (by first | omega | with_reducible assumption | (simp; omega))) (cwV 1 hts gX3_isTaughtNext_X3_taughtNowBy rfl rfl rfl (by decide +kernel) ⟨Nat.le_of_ble_eq_true rfl, Nat.le_of_ble_eq_true rfl⟩) (preRV (q := (RX3, TX3, 11)) (ci := 2) hK hPc rfl rfl) rfl rfl hl.1 rfl (lv_room (Nat.le_of_ble_eq_true rfl)) dX3_isTaughtNext_17 ⟨Nat.zero_le _, Nat.zero_le _⟩) ?_
      refine lv_iconst (v := -1) hx hb dX3_isTaughtNext_20 (by decide) ?_
      refine lv_icmp_eq (tgt := 28) hx hb dX3_isTaughtNext_21 (by decide) (fun c_3 => ?_) (fun c_3 => ?_)
      · skip
        refine lv_iconst (v := nI 0) hx hb dX3_isTaughtNext_28 (by decide) ?_
        exact retRz hx hb hr hlocks rfl (by simp_all [ttP, nI_0]) dX3_isTaughtNext_29
      · skip
        refine lv_iconst (v := nI 1) hx hb dX3_isTaughtNext_24 (by decide) ?_
        refine lv_goto (tgt := 29) hx hb dX3_isTaughtNext_25 (by decide) ?_
        exact retRz hx hb hr hlocks rfl (by simp_all [ttP, nI_0]) dX3_isTaughtNext_29
end
section
set_option maxHeartbeats 4000000 in
set_option maxRecDepth 100000 in
theorem k_X3_atTop (l : Launch) (dC : Nat → ClassId) (dI : Nat → Nat → Nat) (cI cZ : ClassId) (q0 q1 q2 q3 q4 q5 q6 q7 : Nat) (fk fs fn fi fc fw ft : Nat → Int32) (n h : Nat) (th tt : Int32) (c : Nat) (r : Int32) (cu : Int32) (hn1 : 1 ≤ n) (hn6 : n ≤ 6) (hc : c < n) : Met l yX3_atTop wsX3_atTop ({ frames := 1, cells := 0, slots := 0, locals := 22 }) (va_Pc [.ref q0, .int (nI c), .int (r), .int (cu)] (PR (dC, dI) cI cZ [(q0, .inr (2, [.ref q1, .ref q2, .ref q3, .ref q4, .ref q5, .ref q6, .ref q7, .int (nI n), .int (nI h), .int (th), .int (tt)])), (q1, .inl (cI, 6, .inl (fk))), (q2, .inl (cI, 6, .inl (fs))), (q3, .inl (cI, 6, .inl (fn))), (q4, .inl (cZ, 6, .inl (fi))), (q5, .inl (cI, 8, .inl (fc))), (q6, .inl (cI, 8, .inl (fw))), (q7, .inl (cI, 8, .inl (ft)))])) (QRi ((atF fk (cuF fs cu) c (n - 1 - c) r))) 0 0 noF := by
  refine Met.ofW (cc := cX3_atTop) (maxL := 6) (ret := (some .int)) (by decide) rfl ?_
  intro p e s m args below meth co s₁ B hml hv
  obtain ⟨rfl, hP, hK⟩ := hv
  have hx := B.exec
  have hb := B.bytes
  have hr := B.returns
  have hts := atoms_spec (ws := wsX3_atTop) B.pre
  have hown : s.vm.findClass RX3 = some m.cls := findClass_of_methodNamed B.named
  have hlocks := B.notSynchronized
  have inX3 : ∀ w ∈ u_ws RX3 TX3 11, w ∈ wsX3_atTop := by decide +kernel
  have lf11 := hts (.fieldLink RX3 11 "ThursdayRungs$School" "kinds" "[I") (by decide +kernel)
  have lf15 := hts (.fieldLink RX3 15 "ThursdayRungs$School" "slips" "[I") (by decide +kernel)
  have hl := lv_entry ([.ref q0, .int (nI c), .int (r), .int (cu)]) (n := 6) (Nat.le_of_ble_eq_true rfl)
  rw [lg_entry_eq]
  generalize (lg_sl ([.ref q0, .int (nI c), .int (r), .int (cu)]) ++ List.replicate (6 - (lg_sl ([.ref q0, .int (nI c), .int (r), .int (cu)])).length) Slot.unset).toArray = ls at hl ⊢
  have hl : lv_has ls 6 [(0, .ref q0), (1, .int (nI c)), (2, .int (r)), (3, .int (cu))] := hl
  refine lv_iload_n hx hb dX3_atTop_0 rfl (lv_at hl 2 rfl) ?_
  refine lv_istore (lv' := [(4, .int (r)), (0, .ref q0), (1, .int (nI c)), (2, .int (r)), (3, .int (cu))]) hx hb dX3_atTop_1 hl (by decide) rfl (fun ls hl => ?_)
  refine lv_iload_n hx hb dX3_atTop_3 rfl (lv_at hl 2 rfl) ?_
  refine lv_istore (lv' := [(5, .int (nI c)), (4, .int (r)), (0, .ref q0), (1, .int (nI c)), (2, .int (r)), (3, .int (cu))]) hx hb dX3_atTop_4 hl (by decide) rfl (fun ls hl => ?_)
  have lp6 : ∀ (w : Nat) (k : Nat) (v : Int32), n - k < w → c ≤ k ∧ k ≤ n - 1 → ((atF fk (cuF fs cu) c (n - 1 - c) r)) = atF fk (cuF fs cu) k (n - 1 - k) v → ∀ (ls : Array Slot), lv_has ls 6 [(0, .ref q0), (1, .int (nI c)), (2, .int (r)), (3, .int (cu)), (4, .int (v)), (5, .int (nI k))] → W p l e (headSpec wsX3_atTop ({ frames := 1, cells := 0, slots := 0, locals := 22 })).room s m ([.ref q0, .int (nI c), .int (r), .int (cu)] : List Value).toArray below meth co s.heap [] 0 0 (MQ below (QRi ((atF fk (cuF fs cu) c (n - 1 - c) r))) ([.ref q0, .int (nI c), .int (r), .int (cu)] : List Value).toArray s 0 0 noF) (F0 m 6 ls []) := by
    intro w
    induction w with
    | zero => intro k v h0; exact absurd h0 (Nat.not_lt_zero _)
    | succ w ih6 =>
      intro k v hm_1 hk hL ls hl
      refine lv_iload hx hb dX3_atTop_6 (lv_at hl 5 rfl) ?_
      refine lv_aload_n hx hb dX3_atTop_8 rfl (lv_at hl 0 rfl) ?_
      have hPc := hP.sub (ws' := [(q0, .inr (2, [.ref q1, .ref q2, .ref q3, .ref q4, .ref q5, .ref q6, .ref q7, .int (nI n), .int (nI h), .int (th), .int (tt)])), (q1, .inl (cI, 6, .inl (fk))), (q2, .inl (cI, 6, .inl (fs))), (q3, .inl (cI, 6, .inl (fn))), (q4, .inl (cZ, 6, .inl (fi))), (q5, .inl (cI, 8, .inl (fc))), (q6, .inl (cI, 8, .inl (fw))), (q7, .inl (cI, 8, .inl (ft)))]) [0, 1, 2, 3, 4, 5, 6, 7] rfl
      refine callRi (v := nI (n - 1)) (W.runV (As := []) (rest := [.int (nI k)]) ⟨hx, hb, hml, hown, hts⟩ (k_X3_top l dC dI cI cZ q0 q1 q2 q3 q4 q5 q6 q7 (fk) (fs) (fn) (fi) (fc) (fw) (ft) (n) (h) (th) (tt) (by first | omega | with_reducible assumption | (simp; omega)) (by first | omega | with_reducible assumption | (simp; omega))) (cwV 0 hts gX3_atTop_X3_top rfl rfl rfl (by decide +kernel) ⟨Nat.le_of_ble_eq_true rfl, Nat.le_of_ble_eq_true rfl⟩) (preRV (q := (RX3, TX3, 11)) (ci := 2) hK hPc rfl rfl) rfl rfl hl.1 rfl (lv_room (Nat.le_of_ble_eq_true rfl)) dX3_atTop_9 ⟨Nat.zero_le _, Nat.zero_le _⟩) ?_
      refine w_ci_ge (tgt := 52) hx hb (by omega) (by omega) dX3_atTop_12 (by decide) (fun c_2 => ?_) (fun c_2 => ?_)
      · skip
        refine lv_iload hx hb dX3_atTop_52 (lv_at hl 4 rfl) ?_
        exact retRi hx hb hr hlocks (by rw [hL, show n - 1 - k = 0 by omega]; rfl) dX3_atTop_54
      · skip
        refine lv_aload_n hx hb dX3_atTop_15 rfl (lv_at hl 0 rfl) ?_
        refine va_get (D := (dC, dI)) (ci := 2) (v := .ref q1) (C := RX3) (T := TX3) (N := 11) hx hb hts inX3 hown hK hP 0 rfl rfl 0 (by decide) lf11 (fun _ h9 => h9) rfl dX3_atTop_16 ?_
        refine lv_iload hx hb dX3_atTop_19 (lv_at hl 5 rfl) ?_
        refine w_iald (k := k) hx hb hK hP 1 0 rfl rfl (by omega) (by decide) dX3_atTop_21 ?_
        refine lv_iload hx hb dX3_atTop_22 (lv_at hl 5 rfl) ?_
        refine lv_iload_n hx hb dX3_atTop_24 rfl (lv_at hl 3 rfl) ?_
        refine lv_icmp_ne (tgt := 32) hx hb dX3_atTop_25 (by decide) (fun c_3 => ?_) (fun c_3 => ?_)
        · skip
          refine lv_aload_n hx hb dX3_atTop_32 rfl (lv_at hl 0 rfl) ?_
          refine va_get (D := (dC, dI)) (ci := 2) (v := .ref q2) (C := RX3) (T := TX3) (N := 11) hx hb hts inX3 hown hK hP 0 rfl rfl 1 (by decide) lf15 (fun _ h9 => h9) rfl dX3_atTop_33 ?_
          refine lv_iload hx hb dX3_atTop_36 (lv_at hl 5 rfl) ?_
          refine w_iald (k := k) hx hb hK hP 2 0 rfl rfl (by omega) (by decide) dX3_atTop_38 ?_
          refine lv_iload hx hb dX3_atTop_39 (lv_at hl 4 rfl) ?_
          have hPc := hP.sub (ws' := []) [] rfl
          refine callRi (v := (tb (fk k) (fs k) v)) (W.runS (As := [.int (fk k), .int (fs k), .int (v)]) (rest := []) ⟨hx, hb, hml, hown, hts⟩ (k_X1_passesOn l dC dI cI cZ (fk k) (fs k) (v)) (va_cwS 3 hts gX3_atTop_X1_passesOn rfl rfl rfl (by decide +kernel) ⟨Nat.le_of_ble_eq_true rfl, Nat.le_of_ble_eq_true rfl⟩) (preRS hK hPc) rfl rfl hl.1 rfl (lv_room (Nat.le_of_ble_eq_true rfl)) dX3_atTop_41 ⟨Nat.zero_le _, Nat.zero_le _⟩) ?_
          refine lv_istore (lv' := [(4, .int ((tb (fk k) (fs k) v))), (0, .ref q0), (1, .int (nI c)), (2, .int (r)), (3, .int (cu)), (5, .int (nI k))]) hx hb dX3_atTop_44 hl (by decide) rfl (fun ls hl => ?_)
          refine lv_iinc (v := nI (k + 1)) (lv' := [(5, .int (nI (k + 1))), (4, .int ((tb (fk k) (fs k) v))), (0, .ref q0), (1, .int (nI c)), (2, .int (r)), (3, .int (cu))]) hx hb dX3_atTop_46 hl (k := 5) rfl w_inc1 (by decide) rfl (fun ls hl => ?_)
          refine lv_goto (tgt := 6) hx hb dX3_atTop_49 (by decide) ?_
          exact ih6 (k + 1) ((tb (fk k) (fs k) v)) (by omega) (by first | omega | with_reducible assumption | (first | with_reducible rfl | exact (if_pos (c_3)).symm | exact (if_neg (c_3)).symm | (simp [hn1, hn6, hc, hk, hL, c_2, c_3]; done) | omega | rfl)) (by rw [hL, show n - 1 - k = (n - 1 - (k + 1)) + 1 by omega, atF]; simp_all [cuF]) ls (lv_sub hl [2, 3, 4, 5, 1, 0] rfl)
        · skip
          refine lv_iconst (v := nI 0) hx hb dX3_atTop_28 (by decide) ?_
          refine lv_goto (tgt := 39) hx hb dX3_atTop_29 (by decide) ?_
          refine lv_iload hx hb dX3_atTop_39 (lv_at hl 4 rfl) ?_
          have hPc := hP.sub (ws' := []) [] rfl
          refine callRi (v := (tb (fk k) (nI 0) v)) (W.runS (As := [.int (fk k), .int (nI 0), .int (v)]) (rest := []) ⟨hx, hb, hml, hown, hts⟩ (k_X1_passesOn l dC dI cI cZ (fk k) (nI 0) (v)) (va_cwS 3 hts gX3_atTop_X1_passesOn rfl rfl rfl (by decide +kernel) ⟨Nat.le_of_ble_eq_true rfl, Nat.le_of_ble_eq_true rfl⟩) (preRS hK hPc) rfl rfl hl.1 rfl (lv_room (Nat.le_of_ble_eq_true rfl)) dX3_atTop_41 ⟨Nat.zero_le _, Nat.zero_le _⟩) ?_
          refine lv_istore (lv' := [(4, .int ((tb (fk k) (nI 0) v))), (0, .ref q0), (1, .int (nI c)), (2, .int (r)), (3, .int (cu)), (5, .int (nI k))]) hx hb dX3_atTop_44 hl (by decide) rfl (fun ls hl => ?_)
          refine lv_iinc (v := nI (k + 1)) (lv' := [(5, .int (nI (k + 1))), (4, .int ((tb (fk k) (nI 0) v))), (0, .ref q0), (1, .int (nI c)), (2, .int (r)), (3, .int (cu))]) hx hb dX3_atTop_46 hl (k := 5) rfl w_inc1 (by decide) rfl (fun ls hl => ?_)
          refine lv_goto (tgt := 6) hx hb dX3_atTop_49 (by decide) ?_
          exact ih6 (k + 1) ((tb (fk k) (nI 0) v)) (by omega) (by first | omega | with_reducible assumption | (first | with_reducible rfl | exact (if_pos (c_3)).symm | exact (if_neg (c_3)).symm | (simp [hn1, hn6, hc, hk, hL, c_2, c_3]; done) | omega | rfl)) (by rw [hL, show n - 1 - k = (n - 1 - (k + 1)) + 1 by omega, atF]; simp_all [cuF]) ls (lv_sub hl [2, 3, 4, 5, 1, 0] rfl)
  exact lp6 (n - c + 1) (c) (r) (Nat.lt_succ_self _) (by first | omega | with_reducible assumption | (first | with_reducible rfl | exact (if_pos (hc)).symm | exact (if_neg (hc)).symm | (simp [hn1, hn6, hc]; done) | omega | rfl)) (by rfl) ls (lv_sub hl [2, 3, 4, 5, 1, 0] rfl)
set_option maxHeartbeats 4000000 in
set_option maxRecDepth 100000 in
theorem k_X3_sourcesOf (l : Launch) (dC : Nat → ClassId) (dI : Nat → Nat → Nat) (cI cZ : ClassId) (q0 q1 q2 q3 q4 q5 q6 q7 : Nat) (fk fs fn fi fc fw ft : Nat → Int32) (n h : Nat) (th tt : Int32) (c : Nat) (x : Int32) (hn1 : 1 ≤ n) (hn6 : n ≤ 6) (hc : c < n) : Met l yX3_sourcesOf wsX3_sourcesOf ({ frames := 2, cells := 0, slots := 0, locals := 47 }) (va_Pc [.ref q0, .int (nI c), .int (x)] (PR (dC, dI) cI cZ [(q0, .inr (2, [.ref q1, .ref q2, .ref q3, .ref q4, .ref q5, .ref q6, .ref q7, .int (nI n), .int (nI h), .int (th), .int (tt)])), (q1, .inl (cI, 6, .inl (fk))), (q2, .inl (cI, 6, .inl (fs))), (q3, .inl (cI, 6, .inl (fn))), (q4, .inl (cZ, 6, .inl (fi))), (q5, .inl (cI, 8, .inl (fc))), (q6, .inl (cI, 8, .inl (fw))), (q7, .inl (cI, 8, .inl (ft)))])) (QRi ((srcF (fun r => atF fk fs c (n - 1 - c) (nI r)) x 12))) 0 0 noF := by
  refine Met.ofW (cc := cX3_sourcesOf) (maxL := 5) (ret := (some .int)) (by decide) rfl ?_
  intro p e s m args below meth co s₁ B hml hv
  obtain ⟨rfl, hP, hK⟩ := hv
  have hx := B.exec
  have hb := B.bytes
  have hr := B.returns
  have hts := atoms_spec (ws := wsX3_sourcesOf) B.pre
  have hown : s.vm.findClass RX3 = some m.cls := findClass_of_methodNamed B.named
  have hlocks := B.notSynchronized
  have hl := lv_entry ([.ref q0, .int (nI c), .int (x)]) (n := 5) (Nat.le_of_ble_eq_true rfl)
  rw [lg_entry_eq]
  generalize (lg_sl ([.ref q0, .int (nI c), .int (x)]) ++ List.replicate (5 - (lg_sl ([.ref q0, .int (nI c), .int (x)])).length) Slot.unset).toArray = ls at hl ⊢
  have hl : lv_has ls 5 [(0, .ref q0), (1, .int (nI c)), (2, .int (x))] := hl
  refine lv_iconst (v := nI 0) hx hb dX3_sourcesOf_0 (by decide) ?_
  refine lv_istore_n (lv' := [(3, .int (nI 0)), (0, .ref q0), (1, .int (nI c)), (2, .int (x))]) hx hb dX3_sourcesOf_1 rfl hl (by decide) rfl (fun ls hl => ?_)
  refine lv_iconst (v := nI 0) hx hb dX3_sourcesOf_2 (by decide) ?_
  refine lv_istore (lv' := [(4, .int (nI 0)), (3, .int (nI 0)), (0, .ref q0), (1, .int (nI c)), (2, .int (x))]) hx hb dX3_sourcesOf_3 hl (by decide) rfl (fun ls hl => ?_)
  have lp5 : ∀ (w : Nat) (k : Nat), 12 - k < w → k ≤ 12 → ∀ (ls : Array Slot), lv_has ls 5 [(0, .ref q0), (1, .int (nI c)), (2, .int (x)), (3, .int ((srcF (fun r => atF fk fs c (n - 1 - c) (nI r)) x k))), (4, .int (nI k))] → W p l e (headSpec wsX3_sourcesOf ({ frames := 2, cells := 0, slots := 0, locals := 47 })).room s m ([.ref q0, .int (nI c), .int (x)] : List Value).toArray below meth co s.heap [] 0 0 (MQ below (QRi ((srcF (fun r => atF fk fs c (n - 1 - c) (nI r)) x 12))) ([.ref q0, .int (nI c), .int (x)] : List Value).toArray s 0 0 noF) (F0 m 5 ls []) := by
    intro w
    induction w with
    | zero => intro k h0; exact absurd h0 (Nat.not_lt_zero _)
    | succ w ih5 =>
      intro k hm_1 hk ls hl
      refine lv_iload hx hb dX3_sourcesOf_5 (lv_at hl 4 rfl) ?_
      refine lv_bipush (v := nI 12) hx hb dX3_sourcesOf_7 (by decide) ?_
      refine w_ci_ge (tgt := 37) hx hb (by omega) (by omega) dX3_sourcesOf_9 (by decide) (fun c_2 => ?_) (fun c_2 => ?_)
      · skip
        refine lv_iload_n hx hb dX3_sourcesOf_37 rfl (lv_at hl 3 rfl) ?_
        exact retRi hx hb hr hlocks (by rw [show k = 12 by omega]) dX3_sourcesOf_38
      · skip
        refine lv_aload_n hx hb dX3_sourcesOf_12 rfl (lv_at hl 0 rfl) ?_
        refine lv_iload_n hx hb dX3_sourcesOf_13 rfl (lv_at hl 1 rfl) ?_
        refine lv_iload hx hb dX3_sourcesOf_14 (lv_at hl 4 rfl) ?_
        refine lv_iconst (v := -1) hx hb dX3_sourcesOf_16 (by decide) ?_
        have hPc := hP.sub (ws' := [(q0, .inr (2, [.ref q1, .ref q2, .ref q3, .ref q4, .ref q5, .ref q6, .ref q7, .int (nI n), .int (nI h), .int (th), .int (tt)])), (q1, .inl (cI, 6, .inl (fk))), (q2, .inl (cI, 6, .inl (fs))), (q3, .inl (cI, 6, .inl (fn))), (q4, .inl (cZ, 6, .inl (fi))), (q5, .inl (cI, 8, .inl (fc))), (q6, .inl (cI, 8, .inl (fw))), (q7, .inl (cI, 8, .inl (ft)))]) [0, 1, 2, 3, 4, 5, 6, 7] rfl
        refine callRi (v := (atF fk (cuF fs (-1)) c (n - 1 - c) (nI k))) (W.runV (As := [.int (nI c), .int (nI k), .int ((-1))]) (rest := []) ⟨hx, hb, hml, hown, hts⟩ (k_X3_atTop l dC dI cI cZ q0 q1 q2 q3 q4 q5 q6 q7 (fk) (fs) (fn) (fi) (fc) (fw) (ft) (n) (h) (th) (tt) (c) (nI k) ((-1)) (by first | omega | with_reducible assumption | (simp; omega)) (by first | omega | with_reducible assumption | (simp; omega)) (by first | omega | with_reducible assumption | (simp; omega))) (cwV 3 hts gX3_sourcesOf_X3_atTop rfl rfl rfl (by decide +kernel) ⟨Nat.le_of_ble_eq_true rfl, Nat.le_of_ble_eq_true rfl⟩) (preRV (q := (RX3, TX3, 11)) (ci := 2) hK hPc rfl rfl) rfl rfl hl.1 rfl (lv_room (Nat.le_of_ble_eq_true rfl)) dX3_sourcesOf_17 ⟨Nat.zero_le _, Nat.zero_le _⟩) ?_
        rw [show ((atF fk (cuF fs (-1)) c (n - 1 - c) (nI k)) : Int32) = (atF fk fs c (n - 1 - c) (nI k)) from atF_cu (by omega)]
        refine lv_iload_n hx hb dX3_sourcesOf_20 rfl (lv_at hl 2 rfl) ?_
        refine lv_icmp_ne (tgt := 31) hx hb dX3_sourcesOf_21 (by decide) (fun c_4 => ?_) (fun c_4 => ?_)
        · skip
          refine lv_iinc (v := nI (k + 1)) (lv' := [(4, .int (nI (k + 1))), (0, .ref q0), (1, .int (nI c)), (2, .int (x)), (3, .int ((srcF (fun r => atF fk fs c (n - 1 - c) (nI r)) x k)))]) hx hb dX3_sourcesOf_31 hl (k := 4) rfl w_inc1 (by decide) rfl (fun ls hl => ?_)
          refine lv_goto (tgt := 5) hx hb dX3_sourcesOf_34 (by decide) ?_
          have he_5 : ((srcF (fun r => atF fk fs c (n - 1 - c) (nI r)) x k) : Int32) = (srcF (fun r => atF fk fs c (n - 1 - c) (nI r)) x (k + 1)) := by first | with_reducible rfl | exact (if_pos (c_4)).symm | exact (if_neg (c_4)).symm | (simp [hn1, hn6, hc, hk, c_2, c_4]; done) | omega | rfl
          have hl := lv_cong hl (show ([(4, .int (nI (k + 1))), (0, .ref q0), (1, .int (nI c)), (2, .int (x)), (3, .int ((srcF (fun r => atF fk fs c (n - 1 - c) (nI r)) x k)))] : List (Nat × Value)) = [(4, .int (nI ((k + 1)))), (0, .ref q0), (1, .int (nI c)), (2, .int (x)), (3, .int ((srcF (fun r => atF fk fs c (n - 1 - c) (nI r)) x (k + 1))))] by rw [← he_5])
          exact ih5 (k + 1) (by omega) (by first | omega | with_reducible assumption | (first | with_reducible rfl | exact (if_pos (c_4)).symm | exact (if_neg (c_4)).symm | (simp [hn1, hn6, hc, hk, c_2, c_4]; done) | omega | rfl)) ls (lv_sub hl [1, 2, 3, 4, 0] rfl)
        · skip
          refine lv_iload_n hx hb dX3_sourcesOf_24 rfl (lv_at hl 3 rfl) ?_
          refine lv_iconst (v := nI 1) hx hb dX3_sourcesOf_25 (by decide) ?_
          refine lv_iload hx hb dX3_sourcesOf_26 (lv_at hl 4 rfl) ?_
          refine lv_ishl hx hb dX3_sourcesOf_28 ?_
          refine lv_ior hx hb dX3_sourcesOf_29 ?_
          refine lv_istore_n (lv' := [(3, .int (((srcF (fun r => atF fk fs c (n - 1 - c) (nI r)) x k)) ||| ((nI 1) <<< ((nI k) &&& 31)))), (0, .ref q0), (1, .int (nI c)), (2, .int (x)), (4, .int (nI k))]) hx hb dX3_sourcesOf_30 rfl hl (by decide) rfl (fun ls hl => ?_)
          refine lv_iinc (v := nI (k + 1)) (lv' := [(4, .int (nI (k + 1))), (3, .int (((srcF (fun r => atF fk fs c (n - 1 - c) (nI r)) x k)) ||| ((nI 1) <<< ((nI k) &&& 31)))), (0, .ref q0), (1, .int (nI c)), (2, .int (x))]) hx hb dX3_sourcesOf_31 hl (k := 4) rfl w_inc1 (by decide) rfl (fun ls hl => ?_)
          refine lv_goto (tgt := 5) hx hb dX3_sourcesOf_34 (by decide) ?_
          have he_6 : (((srcF (fun r => atF fk fs c (n - 1 - c) (nI r)) x k)) ||| ((nI 1) <<< ((nI k) &&& 31)) : Int32) = (srcF (fun r => atF fk fs c (n - 1 - c) (nI r)) x (k + 1)) := by first | with_reducible rfl | exact (if_pos (c_4)).symm | exact (if_neg (c_4)).symm | (simp [hn1, hn6, hc, hk, c_2, c_4]; done) | omega | rfl
          have hl := lv_cong hl (show ([(4, .int (nI (k + 1))), (3, .int (((srcF (fun r => atF fk fs c (n - 1 - c) (nI r)) x k)) ||| ((nI 1) <<< ((nI k) &&& 31)))), (0, .ref q0), (1, .int (nI c)), (2, .int (x))] : List (Nat × Value)) = [(4, .int (nI ((k + 1)))), (3, .int ((srcF (fun r => atF fk fs c (n - 1 - c) (nI r)) x (k + 1)))), (0, .ref q0), (1, .int (nI c)), (2, .int (x))] by rw [← he_6])
          exact ih5 (k + 1) (by omega) (by first | omega | with_reducible assumption | (first | with_reducible rfl | exact (if_pos (c_4)).symm | exact (if_neg (c_4)).symm | (simp [hn1, hn6, hc, hk, c_2, c_4]; done) | omega | rfl)) ls (lv_sub hl [2, 3, 4, 1, 0] rfl)
  have he_7 : (nI 0 : Int32) = (srcF (fun r => atF fk fs c (n - 1 - c) (nI r)) x 0) := by first | with_reducible rfl | exact (if_pos (hc)).symm | exact (if_neg (hc)).symm | (simp [hn1, hn6, hc]; done) | omega | rfl
  have hl := lv_cong hl (show ([(4, .int (nI 0)), (3, .int (nI 0)), (0, .ref q0), (1, .int (nI c)), (2, .int (x))] : List (Nat × Value)) = [(4, .int (nI 0)), (3, .int ((srcF (fun r => atF fk fs c (n - 1 - c) (nI r)) x 0))), (0, .ref q0), (1, .int (nI c)), (2, .int (x))] by rw [← he_7])
  exact lp5 (12 - 0 + 1) (0) (Nat.lt_succ_self _) (by first | omega | with_reducible assumption | (first | with_reducible rfl | exact (if_pos (hc)).symm | exact (if_neg (hc)).symm | (simp [hn1, hn6, hc]; done) | omega | rfl)) ls (lv_sub hl [2, 3, 4, 1, 0] rfl)
set_option maxHeartbeats 4000000 in
set_option maxRecDepth 100000 in
theorem k_X3_unchangedAtTop (l : Launch) (dC : Nat → ClassId) (dI : Nat → Nat → Nat) (cI cZ : ClassId) (q0 q1 q2 q3 q4 q5 q6 q7 : Nat) (fk fs fn fi fc fw ft : Nat → Int32) (n h : Nat) (th tt : Int32) (cu : Int32) (hn1 : 1 ≤ n) (hn6 : n ≤ 6) : Met l yX3_unchangedAtTop wsX3_unchangedAtTop ({ frames := 2, cells := 0, slots := 0, locals := 47 }) (va_Pc [.ref q0, .int (cu)] (PR (dC, dI) cI cZ [(q0, .inr (2, [.ref q1, .ref q2, .ref q3, .ref q4, .ref q5, .ref q6, .ref q7, .int (nI n), .int (nI h), .int (th), .int (tt)])), (q1, .inl (cI, 6, .inl (fk))), (q2, .inl (cI, 6, .inl (fs))), (q3, .inl (cI, 6, .inl (fn))), (q4, .inl (cZ, 6, .inl (fi))), (q5, .inl (cI, 8, .inl (fc))), (q6, .inl (cI, 8, .inl (fw))), (q7, .inl (cI, 8, .inl (ft)))])) (QRi (nI (ucF fk (cuF fs cu) n))) 0 0 noF := by
  refine Met.ofW (cc := cX3_unchangedAtTop) (maxL := 4) (ret := (some .int)) (by decide) rfl ?_
  intro p e s m args below meth co s₁ B hml hv
  obtain ⟨rfl, hP, hK⟩ := hv
  have hx := B.exec
  have hb := B.bytes
  have hr := B.returns
  have hts := atoms_spec (ws := wsX3_unchangedAtTop) B.pre
  have hown : s.vm.findClass RX3 = some m.cls := findClass_of_methodNamed B.named
  have hlocks := B.notSynchronized
  have hl := lv_entry ([.ref q0, .int (cu)]) (n := 4) (Nat.le_of_ble_eq_true rfl)
  rw [lg_entry_eq]
  generalize (lg_sl ([.ref q0, .int (cu)]) ++ List.replicate (4 - (lg_sl ([.ref q0, .int (cu)])).length) Slot.unset).toArray = ls at hl ⊢
  have hl : lv_has ls 4 [(0, .ref q0), (1, .int (cu))] := hl
  refine lv_iconst (v := nI 0) hx hb dX3_unchangedAtTop_0 (by decide) ?_
  refine lv_istore_n (lv' := [(2, .int (nI 0)), (0, .ref q0), (1, .int (cu))]) hx hb dX3_unchangedAtTop_1 rfl hl (by decide) rfl (fun ls hl => ?_)
  refine lv_iconst (v := nI 0) hx hb dX3_unchangedAtTop_2 (by decide) ?_
  refine lv_istore_n (lv' := [(3, .int (nI 0)), (2, .int (nI 0)), (0, .ref q0), (1, .int (cu))]) hx hb dX3_unchangedAtTop_3 rfl hl (by decide) rfl (fun ls hl => ?_)
  have lp4 : ∀ (w : Nat) (k : Nat), 12 - k < w → k ≤ 12 → ∀ (ls : Array Slot), lv_has ls 4 [(0, .ref q0), (1, .int (cu)), (2, .int (nI (unF (fun r => atF fk (cuF fs cu) 0 (n - 1) (nI r)) k))), (3, .int (nI k))] → W p l e (headSpec wsX3_unchangedAtTop ({ frames := 2, cells := 0, slots := 0, locals := 47 })).room s m ([.ref q0, .int (cu)] : List Value).toArray below meth co s.heap [] 0 0 (MQ below (QRi (nI (ucF fk (cuF fs cu) n))) ([.ref q0, .int (cu)] : List Value).toArray s 0 0 noF) (F0 m 4 ls []) := by
    intro w
    induction w with
    | zero => intro k h0; exact absurd h0 (Nat.not_lt_zero _)
    | succ w ih4 =>
      intro k hm_1 hk ls hl
      refine lv_iload_n hx hb dX3_unchangedAtTop_4 rfl (lv_at hl 3 rfl) ?_
      refine lv_bipush (v := nI 12) hx hb dX3_unchangedAtTop_5 (by decide) ?_
      refine w_ci_ge (tgt := 30) hx hb (by omega) (by omega) dX3_unchangedAtTop_7 (by decide) (fun c_2 => ?_) (fun c_2 => ?_)
      · skip
        refine lv_iload_n hx hb dX3_unchangedAtTop_30 rfl (lv_at hl 2 rfl) ?_
        exact retRi hx hb hr hlocks (by rw [show k = 12 by omega]; rfl) dX3_unchangedAtTop_31
      · skip
        refine lv_aload_n hx hb dX3_unchangedAtTop_10 rfl (lv_at hl 0 rfl) ?_
        refine lv_iconst (v := nI 0) hx hb dX3_unchangedAtTop_11 (by decide) ?_
        refine lv_iload_n hx hb dX3_unchangedAtTop_12 rfl (lv_at hl 3 rfl) ?_
        refine lv_iload_n hx hb dX3_unchangedAtTop_13 rfl (lv_at hl 1 rfl) ?_
        have hPc := hP.sub (ws' := [(q0, .inr (2, [.ref q1, .ref q2, .ref q3, .ref q4, .ref q5, .ref q6, .ref q7, .int (nI n), .int (nI h), .int (th), .int (tt)])), (q1, .inl (cI, 6, .inl (fk))), (q2, .inl (cI, 6, .inl (fs))), (q3, .inl (cI, 6, .inl (fn))), (q4, .inl (cZ, 6, .inl (fi))), (q5, .inl (cI, 8, .inl (fc))), (q6, .inl (cI, 8, .inl (fw))), (q7, .inl (cI, 8, .inl (ft)))]) [0, 1, 2, 3, 4, 5, 6, 7] rfl
        refine callRi (v := (atF fk (cuF fs cu) 0 (n - 1 - 0) (nI k))) (W.runV (As := [.int (nI 0), .int (nI k), .int (cu)]) (rest := []) ⟨hx, hb, hml, hown, hts⟩ (k_X3_atTop l dC dI cI cZ q0 q1 q2 q3 q4 q5 q6 q7 (fk) (fs) (fn) (fi) (fc) (fw) (ft) (n) (h) (th) (tt) (0) (nI k) (cu) (by first | omega | with_reducible assumption | (simp; omega)) (by first | omega | with_reducible assumption | (simp; omega)) (by first | omega | with_reducible assumption | (simp; omega))) (cwV 3 hts gX3_unchangedAtTop_X3_atTop rfl rfl rfl (by decide +kernel) ⟨Nat.le_of_ble_eq_true rfl, Nat.le_of_ble_eq_true rfl⟩) (preRV (q := (RX3, TX3, 11)) (ci := 2) hK hPc rfl rfl) rfl rfl hl.1 rfl (lv_room (Nat.le_of_ble_eq_true rfl)) dX3_unchangedAtTop_14 ⟨Nat.zero_le _, Nat.zero_le _⟩) ?_
        rw [show ((atF fk (cuF fs cu) 0 (n - 1 - 0) (nI k)) : Int32) = (atF fk (cuF fs cu) 0 (n - 1) (nI k)) from rfl]
        refine lv_iload_n hx hb dX3_unchangedAtTop_17 rfl (lv_at hl 3 rfl) ?_
        refine lv_icmp_ne (tgt := 24) hx hb dX3_unchangedAtTop_18 (by decide) (fun c_4 => ?_) (fun c_4 => ?_)
        · skip
          refine lv_iinc (v := nI (k + 1)) (lv' := [(3, .int (nI (k + 1))), (0, .ref q0), (1, .int (cu)), (2, .int (nI (unF (fun r => atF fk (cuF fs cu) 0 (n - 1) (nI r)) k)))]) hx hb dX3_unchangedAtTop_24 hl (k := 3) rfl w_inc1 (by decide) rfl (fun ls hl => ?_)
          refine lv_goto (tgt := 4) hx hb dX3_unchangedAtTop_27 (by decide) ?_
          have he_5 : (nI (unF (fun r => atF fk (cuF fs cu) 0 (n - 1) (nI r)) k) : Int32) = nI (unF (fun r => atF fk (cuF fs cu) 0 (n - 1) (nI r)) (k + 1)) := by first | exact congrArg nI (if_pos (c_4)).symm | exact congrArg nI (if_neg (c_4)).symm
          have hl := lv_cong hl (show ([(3, .int (nI (k + 1))), (0, .ref q0), (1, .int (cu)), (2, .int (nI (unF (fun r => atF fk (cuF fs cu) 0 (n - 1) (nI r)) k)))] : List (Nat × Value)) = [(3, .int (nI ((k + 1)))), (0, .ref q0), (1, .int (cu)), (2, .int (nI (unF (fun r => atF fk (cuF fs cu) 0 (n - 1) (nI r)) (k + 1))))] by rw [← he_5])
          exact ih4 (k + 1) (by omega) (by first | omega | with_reducible assumption | (first | with_reducible rfl | exact (if_pos (c_4)).symm | exact (if_neg (c_4)).symm | (simp [hn1, hn6, hk, c_2, c_4]; done) | omega | rfl)) ls (lv_sub hl [1, 2, 3, 0] rfl)
        · skip
          refine lv_iinc (v := nI (unF (fun r => atF fk (cuF fs cu) 0 (n - 1) (nI r)) k + 1)) (lv' := [(2, .int (nI (unF (fun r => atF fk (cuF fs cu) 0 (n - 1) (nI r)) k + 1))), (0, .ref q0), (1, .int (cu)), (3, .int (nI k))]) hx hb dX3_unchangedAtTop_21 hl (k := 2) rfl w_inc1 (by decide) rfl (fun ls hl => ?_)
          refine lv_iinc (v := nI (k + 1)) (lv' := [(3, .int (nI (k + 1))), (2, .int (nI (unF (fun r => atF fk (cuF fs cu) 0 (n - 1) (nI r)) k + 1))), (0, .ref q0), (1, .int (cu))]) hx hb dX3_unchangedAtTop_24 hl (k := 3) rfl w_inc1 (by decide) rfl (fun ls hl => ?_)
          refine lv_goto (tgt := 4) hx hb dX3_unchangedAtTop_27 (by decide) ?_
          have he_6 : (nI (unF (fun r => atF fk (cuF fs cu) 0 (n - 1) (nI r)) k + 1) : Int32) = nI (unF (fun r => atF fk (cuF fs cu) 0 (n - 1) (nI r)) (k + 1)) := by first | exact congrArg nI (if_pos (c_4)).symm | exact congrArg nI (if_neg (c_4)).symm
          have hl := lv_cong hl (show ([(3, .int (nI (k + 1))), (2, .int (nI (unF (fun r => atF fk (cuF fs cu) 0 (n - 1) (nI r)) k + 1))), (0, .ref q0), (1, .int (cu))] : List (Nat × Value)) = [(3, .int (nI ((k + 1)))), (2, .int (nI (unF (fun r => atF fk (cuF fs cu) 0 (n - 1) (nI r)) (k + 1)))), (0, .ref q0), (1, .int (cu))] by rw [← he_6])
          exact ih4 (k + 1) (by omega) (by first | omega | with_reducible assumption | (first | with_reducible rfl | exact (if_pos (c_4)).symm | exact (if_neg (c_4)).symm | (simp [hn1, hn6, hk, c_2, c_4]; done) | omega | rfl)) ls (lv_sub hl [2, 3, 1, 0] rfl)
  have he_7 : (nI 0 : Int32) = nI (unF (fun r => atF fk (cuF fs cu) 0 (n - 1) (nI r)) 0) := by first | with_reducible rfl | exact (if_pos (hn6)).symm | exact (if_neg (hn6)).symm | (simp [hn1, hn6]; done) | omega | rfl
  have hl := lv_cong hl (show ([(3, .int (nI 0)), (2, .int (nI 0)), (0, .ref q0), (1, .int (cu))] : List (Nat × Value)) = [(3, .int (nI 0)), (2, .int (nI (unF (fun r => atF fk (cuF fs cu) 0 (n - 1) (nI r)) 0))), (0, .ref q0), (1, .int (cu))] by rw [← he_7])
  exact lp4 (12 - 0 + 1) (0) (Nat.lt_succ_self _) (by first | omega | with_reducible assumption | (first | with_reducible rfl | exact (if_pos (hn6)).symm | exact (if_neg (hn6)).symm | (simp [hn1, hn6]; done) | omega | rfl)) ls (lv_sub hl [2, 3, 1, 0] rfl)
end
section
set_option maxHeartbeats 4000000 in
set_option maxRecDepth 100000 in
theorem k_X3_bestToCure (l : Launch) (dC : Nat → ClassId) (dI : Nat → Nat → Nat) (cI cZ : ClassId) (q0 q1 q2 q3 q4 q5 q6 q7 : Nat) (fk fs fn fi fc fw ft : Nat → Int32) (n h : Nat) (th tt : Int32) (hn1 : 1 ≤ n) (hn6 : n ≤ 6) : Met l yX3_bestToCure wsX3_bestToCure ({ frames := 3, cells := 0, slots := 0, locals := 70 }) (va_Pc [.ref q0] (PR (dC, dI) cI cZ [(q0, .inr (2, [.ref q1, .ref q2, .ref q3, .ref q4, .ref q5, .ref q6, .ref q7, .int (nI n), .int (nI h), .int (th), .int (tt)])), (q1, .inl (cI, 6, .inl (fk))), (q2, .inl (cI, 6, .inl (fs))), (q3, .inl (cI, 6, .inl (fn))), (q4, .inl (cZ, 6, .inl (fi))), (q5, .inl (cI, 8, .inl (fc))), (q6, .inl (cI, 8, .inl (fw))), (q7, .inl (cI, 8, .inl (ft)))])) (QRi ((bcF (fun i => ucF fk (cuF fs (nI i)) n) (ucF fk fs n) n).1)) 0 0 noF := by
  refine Met.ofW (cc := cX3_bestToCure) (maxL := 5) (ret := (some .int)) (by decide) rfl ?_
  intro p e s m args below meth co s₁ B hml hv
  obtain ⟨rfl, hP, hK⟩ := hv
  have hx := B.exec
  have hb := B.bytes
  have hr := B.returns
  have hts := atoms_spec (ws := wsX3_bestToCure) B.pre
  have hown : s.vm.findClass RX3 = some m.cls := findClass_of_methodNamed B.named
  have hlocks := B.notSynchronized
  have inX3 : ∀ w ∈ u_ws RX3 TX3 11, w ∈ wsX3_bestToCure := by decide +kernel
  have lf34 := hts (.fieldLink RX3 34 "ThursdayRungs$School" "size" "I") (by decide +kernel)
  have hl := lv_entry ([.ref q0]) (n := 5) (Nat.le_of_ble_eq_true rfl)
  rw [lg_entry_eq]
  generalize (lg_sl ([.ref q0]) ++ List.replicate (5 - (lg_sl ([.ref q0])).length) Slot.unset).toArray = ls at hl ⊢
  have hl : lv_has ls 5 [(0, .ref q0)] := hl
  refine lv_iconst (v := -1) hx hb dX3_bestToCure_0 (by decide) ?_
  refine lv_istore_n (lv' := [(1, .int ((-1))), (0, .ref q0)]) hx hb dX3_bestToCure_1 rfl hl (by decide) rfl (fun ls hl => ?_)
  refine lv_aload_n hx hb dX3_bestToCure_2 rfl (lv_at hl 1 rfl) ?_
  refine lv_iconst (v := -1) hx hb dX3_bestToCure_3 (by decide) ?_
  have hPc := hP.sub (ws' := [(q0, .inr (2, [.ref q1, .ref q2, .ref q3, .ref q4, .ref q5, .ref q6, .ref q7, .int (nI n), .int (nI h), .int (th), .int (tt)])), (q1, .inl (cI, 6, .inl (fk))), (q2, .inl (cI, 6, .inl (fs))), (q3, .inl (cI, 6, .inl (fn))), (q4, .inl (cZ, 6, .inl (fi))), (q5, .inl (cI, 8, .inl (fc))), (q6, .inl (cI, 8, .inl (fw))), (q7, .inl (cI, 8, .inl (ft)))]) [0, 1, 2, 3, 4, 5, 6, 7] rfl
  refine callRi (v := nI (ucF fk (cuF fs (-1)) n)) (W.runV (As := [.int ((-1))]) (rest := []) ⟨hx, hb, hml, hown, hts⟩ (k_X3_unchangedAtTop l dC dI cI cZ q0 q1 q2 q3 q4 q5 q6 q7 (fk) (fs) (fn) (fi) (fc) (fw) (ft) (n) (h) (th) (tt) ((-1)) (by first | omega | with_reducible assumption | (simp; omega)) (by first | omega | with_reducible assumption | (simp; omega))) (cwV 1 hts gX3_bestToCure_X3_unchangedAtTop rfl rfl rfl (by decide +kernel) ⟨Nat.le_of_ble_eq_true rfl, Nat.le_of_ble_eq_true rfl⟩) (preRV (q := (RX3, TX3, 11)) (ci := 2) hK hPc rfl rfl) rfl rfl hl.1 rfl (lv_room (Nat.le_of_ble_eq_true rfl)) dX3_bestToCure_4 ⟨Nat.zero_le _, Nat.zero_le _⟩) ?_
  rw [show (nI (ucF fk (cuF fs (-1)) n) : Int32) = nI (ucF fk fs n) from congrArg nI (ucF_no hn6)]
  refine lv_istore_n (lv' := [(2, .int (nI (ucF fk fs n))), (1, .int ((-1))), (0, .ref q0)]) hx hb dX3_bestToCure_7 rfl hl (by decide) rfl (fun ls hl => ?_)
  refine lv_iconst (v := nI 0) hx hb dX3_bestToCure_8 (by decide) ?_
  refine lv_istore_n (lv' := [(3, .int (nI 0)), (2, .int (nI (ucF fk fs n))), (1, .int ((-1))), (0, .ref q0)]) hx hb dX3_bestToCure_9 rfl hl (by decide) rfl (fun ls hl => ?_)
  have lp10 : ∀ (w : Nat) (k : Nat), n - k < w → k ≤ n → ∀ (ls : Array Slot), lv_has ls 5 [(0, .ref q0), (1, .int ((bcF (fun i => ucF fk (cuF fs (nI i)) n) (ucF fk fs n) k).1)), (2, .int (nI ((bcF (fun i => ucF fk (cuF fs (nI i)) n) (ucF fk fs n) k).2))), (3, .int (nI k))] → W p l e (headSpec wsX3_bestToCure ({ frames := 3, cells := 0, slots := 0, locals := 70 })).room s m ([.ref q0] : List Value).toArray below meth co s.heap [] 0 0 (MQ below (QRi ((bcF (fun i => ucF fk (cuF fs (nI i)) n) (ucF fk fs n) n).1)) ([.ref q0] : List Value).toArray s 0 0 noF) (F0 m 10 ls []) := by
    intro w
    induction w with
    | zero => intro k h0; exact absurd h0 (Nat.not_lt_zero _)
    | succ w ih10 =>
      intro k hm_2 hk ls hl
      refine lv_iload_n hx hb dX3_bestToCure_10 rfl (lv_at hl 3 rfl) ?_
      refine lv_aload_n hx hb dX3_bestToCure_11 rfl (lv_at hl 0 rfl) ?_
      refine va_get (D := (dC, dI)) (ci := 2) (v := .int (nI n)) (C := RX3) (T := TX3) (N := 11) hx hb hts inX3 hown hK hP 0 rfl rfl 7 (by decide) lf34 (fun _ h9 => h9) rfl dX3_bestToCure_12 ?_
      refine w_ci_ge (tgt := 42) hx hb (by omega) (by omega) dX3_bestToCure_15 (by decide) (fun c_3 => ?_) (fun c_3 => ?_)
      · skip
        refine lv_iload_n hx hb dX3_bestToCure_42 rfl (lv_at hl 1 rfl) ?_
        exact retRi hx hb hr hlocks (by rw [show k = n by omega]) dX3_bestToCure_43
      · skip
        refine lv_aload_n hx hb dX3_bestToCure_18 rfl (lv_at hl 0 rfl) ?_
        refine lv_iload_n hx hb dX3_bestToCure_19 rfl (lv_at hl 3 rfl) ?_
        have hPc := hP.sub (ws' := [(q0, .inr (2, [.ref q1, .ref q2, .ref q3, .ref q4, .ref q5, .ref q6, .ref q7, .int (nI n), .int (nI h), .int (th), .int (tt)])), (q1, .inl (cI, 6, .inl (fk))), (q2, .inl (cI, 6, .inl (fs))), (q3, .inl (cI, 6, .inl (fn))), (q4, .inl (cZ, 6, .inl (fi))), (q5, .inl (cI, 8, .inl (fc))), (q6, .inl (cI, 8, .inl (fw))), (q7, .inl (cI, 8, .inl (ft)))]) [0, 1, 2, 3, 4, 5, 6, 7] rfl
        refine callRi (v := nI (ucF fk (cuF fs (nI k)) n)) (W.runV (As := [.int (nI k)]) (rest := []) ⟨hx, hb, hml, hown, hts⟩ (k_X3_unchangedAtTop l dC dI cI cZ q0 q1 q2 q3 q4 q5 q6 q7 (fk) (fs) (fn) (fi) (fc) (fw) (ft) (n) (h) (th) (tt) (nI k) (by first | omega | with_reducible assumption | (simp; omega)) (by first | omega | with_reducible assumption | (simp; omega))) (cwV 1 hts gX3_bestToCure_X3_unchangedAtTop rfl rfl rfl (by decide +kernel) ⟨Nat.le_of_ble_eq_true rfl, Nat.le_of_ble_eq_true rfl⟩) (preRV (q := (RX3, TX3, 11)) (ci := 2) hK hPc rfl rfl) rfl rfl hl.1 rfl (lv_room (Nat.le_of_ble_eq_true rfl)) dX3_bestToCure_20 ⟨Nat.zero_le _, Nat.zero_le _⟩) ?_
        refine lv_istore (lv' := [(4, .int (nI (ucF fk (cuF fs (nI k)) n))), (0, .ref q0), (1, .int ((bcF (fun i => ucF fk (cuF fs (nI i)) n) (ucF fk fs n) k).1)), (2, .int (nI ((bcF (fun i => ucF fk (cuF fs (nI i)) n) (ucF fk fs n) k).2))), (3, .int (nI k))]) hx hb dX3_bestToCure_23 hl (by decide) rfl (fun ls hl => ?_)
        refine lv_iload hx hb dX3_bestToCure_25 (lv_at hl 0 rfl) ?_
        refine lv_iload_n hx hb dX3_bestToCure_27 rfl (lv_at hl 3 rfl) ?_
        have hu := ucF_le (fk := fk) (fs := cuF fs (nI k)) (n := n)
        have hv := bcF_le (n := n) (fk := fk) (fs := fs) (k := k)
        refine w_ci_le (tgt := 36) hx hb (by omega) (by omega) dX3_bestToCure_28 (by decide) (fun c_4 => ?_) (fun c_4 => ?_)
        · skip
          refine lv_iinc (v := nI (k + 1)) (lv' := [(3, .int (nI (k + 1))), (4, .int (nI (ucF fk (cuF fs (nI k)) n))), (0, .ref q0), (1, .int ((bcF (fun i => ucF fk (cuF fs (nI i)) n) (ucF fk fs n) k).1)), (2, .int (nI ((bcF (fun i => ucF fk (cuF fs (nI i)) n) (ucF fk fs n) k).2)))]) hx hb dX3_bestToCure_36 hl (k := 4) rfl w_inc1 (by decide) rfl (fun ls hl => ?_)
          refine lv_goto (tgt := 10) hx hb dX3_bestToCure_39 (by decide) ?_
          have he_5 : ((bcF (fun i => ucF fk (cuF fs (nI i)) n) (ucF fk fs n) k).1 : Int32) = (bcF (fun i => ucF fk (cuF fs (nI i)) n) (ucF fk fs n) (k + 1)).1 := by first | (simp [bcF, c_4]; done) | (simp [bcF, Nat.not_lt.mpr c_4]; done)
          have he_6 : (nI ((bcF (fun i => ucF fk (cuF fs (nI i)) n) (ucF fk fs n) k).2) : Int32) = nI ((bcF (fun i => ucF fk (cuF fs (nI i)) n) (ucF fk fs n) (k + 1)).2) := by first | (simp [bcF, c_4]; done) | (simp [bcF, Nat.not_lt.mpr c_4]; done)
          have hl := lv_cong hl (show ([(3, .int (nI (k + 1))), (4, .int (nI (ucF fk (cuF fs (nI k)) n))), (0, .ref q0), (1, .int ((bcF (fun i => ucF fk (cuF fs (nI i)) n) (ucF fk fs n) k).1)), (2, .int (nI ((bcF (fun i => ucF fk (cuF fs (nI i)) n) (ucF fk fs n) k).2)))] : List (Nat × Value)) = [(3, .int (nI ((k + 1)))), (4, .int (nI (ucF fk (cuF fs (nI k)) n))), (0, .ref q0), (1, .int ((bcF (fun i => ucF fk (cuF fs (nI i)) n) (ucF fk fs n) (k + 1)).1)), (2, .int (nI ((bcF (fun i => ucF fk (cuF fs (nI i)) n) (ucF fk fs n) (k + 1)).2)))] by rw [← he_5, ← he_6])
          exact ih10 (k + 1) (by omega) (by first | omega | with_reducible assumption | (first | with_reducible rfl | exact (if_pos (c_4)).symm | exact (if_neg (c_4)).symm | (simp [hn1, hn6, hk, c_3, c_4]; done) | omega | rfl)) ls (lv_sub hl [2, 3, 4, 0] rfl)
        · skip
          refine lv_iload hx hb dX3_bestToCure_31 (lv_at hl 0 rfl) ?_
          refine lv_istore_n (lv' := [(2, .int (nI (ucF fk (cuF fs (nI k)) n))), (4, .int (nI (ucF fk (cuF fs (nI k)) n))), (0, .ref q0), (1, .int ((bcF (fun i => ucF fk (cuF fs (nI i)) n) (ucF fk fs n) k).1)), (3, .int (nI k))]) hx hb dX3_bestToCure_33 rfl hl (by decide) rfl (fun ls hl => ?_)
          refine lv_iload_n hx hb dX3_bestToCure_34 rfl (lv_at hl 4 rfl) ?_
          refine lv_istore_n (lv' := [(1, .int (nI k)), (2, .int (nI (ucF fk (cuF fs (nI k)) n))), (4, .int (nI (ucF fk (cuF fs (nI k)) n))), (0, .ref q0), (3, .int (nI k))]) hx hb dX3_bestToCure_35 rfl hl (by decide) rfl (fun ls hl => ?_)
          refine lv_iinc (v := nI (k + 1)) (lv' := [(3, .int (nI (k + 1))), (1, .int (nI k)), (2, .int (nI (ucF fk (cuF fs (nI k)) n))), (4, .int (nI (ucF fk (cuF fs (nI k)) n))), (0, .ref q0)]) hx hb dX3_bestToCure_36 hl (k := 4) rfl w_inc1 (by decide) rfl (fun ls hl => ?_)
          refine lv_goto (tgt := 10) hx hb dX3_bestToCure_39 (by decide) ?_
          have he_7 : (nI k : Int32) = (bcF (fun i => ucF fk (cuF fs (nI i)) n) (ucF fk fs n) (k + 1)).1 := by first | (simp [bcF, c_4]; done) | (simp [bcF, Nat.not_lt.mpr c_4]; done)
          have he_8 : (nI (ucF fk (cuF fs (nI k)) n) : Int32) = nI ((bcF (fun i => ucF fk (cuF fs (nI i)) n) (ucF fk fs n) (k + 1)).2) := by first | (simp [bcF, c_4]; done) | (simp [bcF, Nat.not_lt.mpr c_4]; done)
          have hl := lv_cong hl (show ([(3, .int (nI (k + 1))), (1, .int (nI k)), (2, .int (nI (ucF fk (cuF fs (nI k)) n))), (4, .int (nI (ucF fk (cuF fs (nI k)) n))), (0, .ref q0)] : List (Nat × Value)) = [(3, .int (nI ((k + 1)))), (1, .int ((bcF (fun i => ucF fk (cuF fs (nI i)) n) (ucF fk fs n) (k + 1)).1)), (2, .int (nI ((bcF (fun i => ucF fk (cuF fs (nI i)) n) (ucF fk fs n) (k + 1)).2))), (4, .int (nI (ucF fk (cuF fs (nI k)) n))), (0, .ref q0)] by rw [← he_7, ← he_8])
          exact ih10 (k + 1) (by omega) (by first | omega | with_reducible assumption | (first | with_reducible rfl | exact (if_pos (c_4)).symm | exact (if_neg (c_4)).symm | (simp [hn1, hn6, hk, c_3, c_4]; done) | omega | rfl)) ls (lv_sub hl [4, 1, 2, 0] rfl)
  have he_9 : ((-1) : Int32) = (bcF (fun i => ucF fk (cuF fs (nI i)) n) (ucF fk fs n) 0).1 := by rfl
  have he_10 : (nI (ucF fk fs n) : Int32) = nI ((bcF (fun i => ucF fk (cuF fs (nI i)) n) (ucF fk fs n) 0).2) := by rfl
  have hl := lv_cong hl (show ([(3, .int (nI 0)), (2, .int (nI (ucF fk fs n))), (1, .int ((-1))), (0, .ref q0)] : List (Nat × Value)) = [(3, .int (nI 0)), (2, .int (nI ((bcF (fun i => ucF fk (cuF fs (nI i)) n) (ucF fk fs n) 0).2))), (1, .int ((bcF (fun i => ucF fk (cuF fs (nI i)) n) (ucF fk fs n) 0).1)), (0, .ref q0)] by rw [← he_9, ← he_10])
  exact lp10 (n - 0 + 1) (0) (Nat.lt_succ_self _) (by first | omega | with_reducible assumption | (first | with_reducible rfl | exact (if_pos (hn6)).symm | exact (if_neg (hn6)).symm | (simp [hn1, hn6]; done) | omega | rfl)) ls (lv_sub hl [3, 2, 1, 0] rfl)
end
section
set_option maxHeartbeats 4000000 in
set_option maxRecDepth 100000 in
theorem k_X3_thursdaysToTop (l : Launch) (dC : Nat → ClassId) (dI : Nat → Nat → Nat) (cI cZ : ClassId) (q0 q1 q2 q3 q4 q5 q6 q7 : Nat) (fk fs fn fi fc fw ft : Nat → Int32) (n h : Nat) (th tt : Int32) (hn6 : n ≤ 6) : Met l yX3_thursdaysToTop wsX3_thursdaysToTop ({ frames := 1, cells := 0, slots := 0, locals := 20 }) (va_Pc [.ref q0] (PR (dC, dI) cI cZ [(q0, .inr (2, [.ref q1, .ref q2, .ref q3, .ref q4, .ref q5, .ref q6, .ref q7, .int (nI n), .int (nI h), .int (th), .int (tt)])), (q1, .inl (cI, 6, .inl (fk))), (q2, .inl (cI, 6, .inl (fs))), (q3, .inl (cI, 6, .inl (fn))), (q4, .inl (cZ, 6, .inl (fi))), (q5, .inl (cI, 8, .inl (fc))), (q6, .inl (cI, 8, .inl (fw))), (q7, .inl (cI, 8, .inl (ft)))])) (QRi ((ttF fn fi n))) 0 0 noF := by
  refine Met.ofW (cc := cX3_thursdaysToTop) (maxL := 2) (ret := (some .int)) (by decide) rfl ?_
  intro p e s m args below meth co s₁ B hml hv
  obtain ⟨rfl, hP, hK⟩ := hv
  have hx := B.exec
  have hb := B.bytes
  have hr := B.returns
  have hts := atoms_spec (ws := wsX3_thursdaysToTop) B.pre
  have hown : s.vm.findClass RX3 = some m.cls := findClass_of_methodNamed B.named
  have hlocks := B.notSynchronized
  have inX3 : ∀ w ∈ u_ws RX3 TX3 11, w ∈ wsX3_thursdaysToTop := by decide +kernel
  have lf18 := hts (.fieldLink RX3 18 "ThursdayRungs$School" "known" "[I") (by decide +kernel)
  have lf21 := hts (.fieldLink RX3 21 "ThursdayRungs$School" "ill" "[Z") (by decide +kernel)
  have hl := lv_entry ([.ref q0]) (n := 2) (Nat.le_of_ble_eq_true rfl)
  rw [lg_entry_eq]
  generalize (lg_sl ([.ref q0]) ++ List.replicate (2 - (lg_sl ([.ref q0])).length) Slot.unset).toArray = ls at hl ⊢
  have hl : lv_has ls 2 [(0, .ref q0)] := hl
  refine lv_aload_n hx hb dX3_thursdaysToTop_0 rfl (lv_at hl 0 rfl) ?_
  have hPc := hP.sub (ws' := [(q0, .inr (2, [.ref q1, .ref q2, .ref q3, .ref q4, .ref q5, .ref q6, .ref q7, .int (nI n), .int (nI h), .int (th), .int (tt)])), (q1, .inl (cI, 6, .inl (fk))), (q2, .inl (cI, 6, .inl (fs))), (q3, .inl (cI, 6, .inl (fn))), (q4, .inl (cZ, 6, .inl (fi))), (q5, .inl (cI, 8, .inl (fc))), (q6, .inl (cI, 8, .inl (fw))), (q7, .inl (cI, 8, .inl (ft)))]) [0, 1, 2, 3, 4, 5, 6, 7] rfl
  refine callRi (v := (if (n = 0) then nI 1 else nI 0)) (W.runV (As := []) (rest := []) ⟨hx, hb, hml, hown, hts⟩ (k_X3_isNone l dC dI cI cZ q0 q1 q2 q3 q4 q5 q6 q7 (fk) (fs) (fn) (fi) (fc) (fw) (ft) (n) (h) (th) (tt) (by first | omega | with_reducible assumption | (simp; omega))) (cwV 0 hts gX3_thursdaysToTop_X3_isNone rfl rfl rfl (by decide +kernel) ⟨Nat.le_of_ble_eq_true rfl, Nat.le_of_ble_eq_true rfl⟩) (preRV (q := (RX3, TX3, 11)) (ci := 2) hK hPc rfl rfl) rfl rfl hl.1 rfl (lv_room (Nat.le_of_ble_eq_true rfl)) dX3_thursdaysToTop_1 ⟨Nat.zero_le _, Nat.zero_le _⟩) ?_
  refine w_ifeqB (tgt := 9) hx hb dX3_thursdaysToTop_4 (by decide) (fun c_1 => ?_) (fun c_1 => ?_)
  · skip
    refine lv_aload_n hx hb dX3_thursdaysToTop_9 rfl (lv_at hl 0 rfl) ?_
    refine va_get (D := (dC, dI)) (ci := 2) (v := .ref q3) (C := RX3) (T := TX3) (N := 11) hx hb hts inX3 hown hK hP 0 rfl rfl 2 (by decide) lf18 (fun _ h9 => h9) rfl dX3_thursdaysToTop_10 ?_
    refine lv_aload_n hx hb dX3_thursdaysToTop_13 rfl (lv_at hl 0 rfl) ?_
    have hPc := hP.sub (ws' := [(q0, .inr (2, [.ref q1, .ref q2, .ref q3, .ref q4, .ref q5, .ref q6, .ref q7, .int (nI n), .int (nI h), .int (th), .int (tt)])), (q1, .inl (cI, 6, .inl (fk))), (q2, .inl (cI, 6, .inl (fs))), (q3, .inl (cI, 6, .inl (fn))), (q4, .inl (cZ, 6, .inl (fi))), (q5, .inl (cI, 8, .inl (fc))), (q6, .inl (cI, 8, .inl (fw))), (q7, .inl (cI, 8, .inl (ft)))]) [0, 1, 2, 3, 4, 5, 6, 7] rfl
    refine callRi (v := nI (n - 1)) (W.runV (As := []) (rest := [.ref q3]) ⟨hx, hb, hml, hown, hts⟩ (k_X3_top l dC dI cI cZ q0 q1 q2 q3 q4 q5 q6 q7 (fk) (fs) (fn) (fi) (fc) (fw) (ft) (n) (h) (th) (tt) (by first | omega | with_reducible assumption | (simp; omega)) (by first | omega | with_reducible assumption | (simp; omega))) (cwV 0 hts gX3_thursdaysToTop_X3_top rfl rfl rfl (by decide +kernel) ⟨Nat.le_of_ble_eq_true rfl, Nat.le_of_ble_eq_true rfl⟩) (preRV (q := (RX3, TX3, 11)) (ci := 2) hK hPc rfl rfl) rfl rfl hl.1 rfl (lv_room (Nat.le_of_ble_eq_true rfl)) dX3_thursdaysToTop_14 ⟨Nat.zero_le _, Nat.zero_le _⟩) ?_
    refine w_iald (k := n - 1) hx hb hK hP 3 0 rfl rfl (by omega) (by decide) dX3_thursdaysToTop_17 ?_
    refine lv_iconst (v := -1) hx hb dX3_thursdaysToTop_18 (by decide) ?_
    refine lv_icmp_eq (tgt := 24) hx hb dX3_thursdaysToTop_19 (by decide) (fun c_2 => ?_) (fun c_2 => ?_)
    · skip
      refine lv_aload_n hx hb dX3_thursdaysToTop_24 rfl (lv_at hl 0 rfl) ?_
      have hPc := hP.sub (ws' := [(q0, .inr (2, [.ref q1, .ref q2, .ref q3, .ref q4, .ref q5, .ref q6, .ref q7, .int (nI n), .int (nI h), .int (th), .int (tt)])), (q1, .inl (cI, 6, .inl (fk))), (q2, .inl (cI, 6, .inl (fs))), (q3, .inl (cI, 6, .inl (fn))), (q4, .inl (cZ, 6, .inl (fi))), (q5, .inl (cI, 8, .inl (fc))), (q6, .inl (cI, 8, .inl (fw))), (q7, .inl (cI, 8, .inl (ft)))]) [0, 1, 2, 3, 4, 5, 6, 7] rfl
      refine callRi (v := nI (n - 1)) (W.runV (As := []) (rest := []) ⟨hx, hb, hml, hown, hts⟩ (k_X3_top l dC dI cI cZ q0 q1 q2 q3 q4 q5 q6 q7 (fk) (fs) (fn) (fi) (fc) (fw) (ft) (n) (h) (th) (tt) (by first | omega | with_reducible assumption | (simp; omega)) (by first | omega | with_reducible assumption | (simp; omega))) (cwV 0 hts gX3_thursdaysToTop_X3_top rfl rfl rfl (by decide +kernel) ⟨Nat.le_of_ble_eq_true rfl, Nat.le_of_ble_eq_true rfl⟩) (preRV (q := (RX3, TX3, 11)) (ci := 2) hK hPc rfl rfl) rfl rfl hl.1 rfl (lv_room (Nat.le_of_ble_eq_true rfl)) dX3_thursdaysToTop_25 ⟨Nat.zero_le _, Nat.zero_le _⟩) ?_
      refine lv_istore_n (lv' := [(1, .int (nI (n - 1))), (0, .ref q0)]) hx hb dX3_thursdaysToTop_28 rfl hl (by decide) rfl (fun ls hl => ?_)
      have lp29 : ∀ (w : Nat) (j : Nat), j < w → j ≤ n ∧ 1 ≤ n → ((ttF fn fi n)) = soF fn fi n j → ∀ (ls : Array Slot), lv_has ls 2 [(0, .ref q0), (1, .int ((dn j)))] → W p l e (headSpec wsX3_thursdaysToTop ({ frames := 1, cells := 0, slots := 0, locals := 20 })).room s m ([.ref q0] : List Value).toArray below meth co s.heap [] 0 0 (MQ below (QRi ((ttF fn fi n))) ([.ref q0] : List Value).toArray s 0 0 noF) (F0 m 29 ls []) := by
        intro w
        induction w with
        | zero => intro j h0; exact absurd h0 (Nat.not_lt_zero _)
        | succ w ih29 =>
          intro j hm_3 hj hL ls hl
          refine lv_iload_n hx hb dX3_thursdaysToTop_29 rfl (lv_at hl 1 rfl) ?_
          refine lv_if_lt (tgt := 67) hx hb dX3_thursdaysToTop_30 (by decide) (fun c_4 => ?_) (fun c_4 => ?_)
          · skip
            obtain rfl := dn_neg c_4 (by omega)
            refine lv_iconst (v := -1) hx hb dX3_thursdaysToTop_67 (by decide) ?_
            exact retRi hx hb hr hlocks (by rw [hL]; rfl) dX3_thursdaysToTop_68
          · skip
            obtain ⟨i, rfl⟩ := dn_pos c_4 (by omega)
            rw [dn_s] at hl
            refine lv_aload_n hx hb dX3_thursdaysToTop_33 rfl (lv_at hl 0 rfl) ?_
            refine va_get (D := (dC, dI)) (ci := 2) (v := .ref q4) (C := RX3) (T := TX3) (N := 11) hx hb hts inX3 hown hK hP 0 rfl rfl 3 (by decide) lf21 (fun _ h9 => h9) rfl dX3_thursdaysToTop_34 ?_
            refine lv_iload_n hx hb dX3_thursdaysToTop_37 rfl (lv_at hl 1 rfl) ?_
            refine w_zald (k := i) hx hb hK hP 4 1 rfl rfl (by omega) (by decide) dX3_thursdaysToTop_38 ?_
            refine lv_if_eq (tgt := 44) hx hb dX3_thursdaysToTop_39 (by decide) (fun c_5 => ?_) (fun c_5 => ?_)
            · skip
              refine lv_aload_n hx hb dX3_thursdaysToTop_44 rfl (lv_at hl 0 rfl) ?_
              refine va_get (D := (dC, dI)) (ci := 2) (v := .ref q3) (C := RX3) (T := TX3) (N := 11) hx hb hts inX3 hown hK hP 0 rfl rfl 2 (by decide) lf18 (fun _ h9 => h9) rfl dX3_thursdaysToTop_45 ?_
              refine lv_iload_n hx hb dX3_thursdaysToTop_48 rfl (lv_at hl 1 rfl) ?_
              refine w_iald (k := i) hx hb hK hP 3 0 rfl rfl (by omega) (by decide) dX3_thursdaysToTop_49 ?_
              refine lv_iconst (v := -1) hx hb dX3_thursdaysToTop_50 (by decide) ?_
              refine lv_icmp_eq (tgt := 61) hx hb dX3_thursdaysToTop_51 (by decide) (fun c_6 => ?_) (fun c_6 => ?_)
              · skip
                refine lv_iinc (v := (nI i) + Int32.ofInt (-1)) (lv' := [(1, .int ((nI i) + Int32.ofInt (-1))), (0, .ref q0)]) hx hb dX3_thursdaysToTop_61 hl (k := 1) rfl rfl (by decide) rfl (fun ls hl => ?_)
                refine lv_goto (tgt := 29) hx hb dX3_thursdaysToTop_64 (by decide) ?_
                have he_7 : ((nI i) + Int32.ofInt (-1) : Int32) = (dn i) := by exact dn_b
                have hl := lv_cong hl (show ([(1, .int ((nI i) + Int32.ofInt (-1))), (0, .ref q0)] : List (Nat × Value)) = [(1, .int ((dn i))), (0, .ref q0)] by rw [← he_7])
                exact ih29 (i) (by omega) (by first | omega | with_reducible assumption | (first | with_reducible rfl | exact (if_pos (c_6)).symm | exact (if_neg (c_6)).symm | (simp [hn6, c_1, c_2, hj, hL, c_4, c_5, c_6]; done) | omega | rfl)) (by rw [hL, soF, if_neg (by simp [c_5]), if_neg (by simp [c_6])]) ls (lv_sub hl [1, 0] rfl)
              · skip
                refine lv_aload_n hx hb dX3_thursdaysToTop_54 rfl (lv_at hl 0 rfl) ?_
                have hPc := hP.sub (ws' := [(q0, .inr (2, [.ref q1, .ref q2, .ref q3, .ref q4, .ref q5, .ref q6, .ref q7, .int (nI n), .int (nI h), .int (th), .int (tt)])), (q1, .inl (cI, 6, .inl (fk))), (q2, .inl (cI, 6, .inl (fs))), (q3, .inl (cI, 6, .inl (fn))), (q4, .inl (cZ, 6, .inl (fi))), (q5, .inl (cI, 8, .inl (fc))), (q6, .inl (cI, 8, .inl (fw))), (q7, .inl (cI, 8, .inl (ft)))]) [0, 1, 2, 3, 4, 5, 6, 7] rfl
                refine callRi (v := nI (n - 1)) (W.runV (As := []) (rest := []) ⟨hx, hb, hml, hown, hts⟩ (k_X3_top l dC dI cI cZ q0 q1 q2 q3 q4 q5 q6 q7 (fk) (fs) (fn) (fi) (fc) (fw) (ft) (n) (h) (th) (tt) (by first | omega | with_reducible assumption | (simp; omega)) (by first | omega | with_reducible assumption | (simp; omega))) (cwV 0 hts gX3_thursdaysToTop_X3_top rfl rfl rfl (by decide +kernel) ⟨Nat.le_of_ble_eq_true rfl, Nat.le_of_ble_eq_true rfl⟩) (preRV (q := (RX3, TX3, 11)) (ci := 2) hK hPc rfl rfl) rfl rfl hl.1 rfl (lv_room (Nat.le_of_ble_eq_true rfl)) dX3_thursdaysToTop_55 ⟨Nat.zero_le _, Nat.zero_le _⟩) ?_
                refine lv_iload_n hx hb dX3_thursdaysToTop_58 rfl (lv_at hl 1 rfl) ?_
                refine w_subN hx hb (by omega) dX3_thursdaysToTop_59 ?_
                exact retRi hx hb hr hlocks (by rw [hL, soF, if_neg (by simp [c_5]), if_pos (by simpa using c_6)]) dX3_thursdaysToTop_60
            · skip
              refine lv_iconst (v := -1) hx hb dX3_thursdaysToTop_42 (by decide) ?_
              exact retRi hx hb hr hlocks (by rw [hL, soF, if_pos (by simpa using c_5)]) dX3_thursdaysToTop_43
      have he_8 : (nI (n - 1) : Int32) = (dn n) := by exact dn_top (by omega)
      have hl := lv_cong hl (show ([(1, .int (nI (n - 1))), (0, .ref q0)] : List (Nat × Value)) = [(1, .int ((dn n))), (0, .ref q0)] by rw [← he_8])
      exact lp29 (n + 1) (n) (Nat.lt_succ_self _) (by first | omega | with_reducible assumption | (first | with_reducible rfl | exact (if_pos (c_2)).symm | exact (if_neg (c_2)).symm | (simp [hn6, c_1, c_2]; done) | omega | rfl)) (by simp [ttF, hn6, c_1, c_2]; try omega) ls (lv_sub hl [1, 0] rfl)
    · skip
      refine lv_iconst (v := nI 0) hx hb dX3_thursdaysToTop_22 (by decide) ?_
      exact retRi hx hb hr hlocks (by simp [ttF, hn6, c_1, c_2]) dX3_thursdaysToTop_23
  · skip
    refine lv_iconst (v := -1) hx hb dX3_thursdaysToTop_7 (by decide) ?_
    exact retRi hx hb hr hlocks (by simp [ttF, hn6, c_1]) dX3_thursdaysToTop_8
end
section
set_option maxHeartbeats 4000000 in
set_option maxRecDepth 100000 in
theorem k_X3_explainsHeard (l : Launch) (dC : Nat → ClassId) (dI : Nat → Nat → Nat) (cI cZ : ClassId) (q0 q1 q2 q3 q4 q5 q6 q7 : Nat) (fk fs fn fi fc fw ft : Nat → Int32) (n h : Nat) (th tt : Int32) (c : Nat) (sl : Int32) (hh8 : h ≤ 8) (hc : c < 6) : Met l yX3_explainsHeard wsX3_explainsHeard ({ frames := 1, cells := 0, slots := 0, locals := 22 }) (va_Pc [.ref q0, .int (nI c), .int (sl)] (PR (dC, dI) cI cZ [(q0, .inr (2, [.ref q1, .ref q2, .ref q3, .ref q4, .ref q5, .ref q6, .ref q7, .int (nI n), .int (nI h), .int (th), .int (tt)])), (q1, .inl (cI, 6, .inl (fk))), (q2, .inl (cI, 6, .inl (fs))), (q3, .inl (cI, 6, .inl (fn))), (q4, .inl (cZ, 6, .inl (fi))), (q5, .inl (cI, 8, .inl (fc))), (q6, .inl (cI, 8, .inl (fw))), (q7, .inl (cI, 8, .inl (ft)))])) (QRi ((if (exP fc fw ft (fk c) (nI c) sl h) then nI 1 else nI 0))) 0 0 noF := by
  refine Met.ofW (cc := cX3_explainsHeard) (maxL := 4) (ret := (some .boolean)) (by decide) rfl ?_
  intro p e s m args below meth co s₁ B hml hv
  obtain ⟨rfl, hP, hK⟩ := hv
  have hx := B.exec
  have hb := B.bytes
  have hr := B.returns
  have hts := atoms_spec (ws := wsX3_explainsHeard) B.pre
  have hown : s.vm.findClass RX3 = some m.cls := findClass_of_methodNamed B.named
  have hlocks := B.notSynchronized
  have inX3 : ∀ w ∈ u_ws RX3 TX3 11, w ∈ wsX3_explainsHeard := by decide +kernel
  have lf11 := hts (.fieldLink RX3 11 "ThursdayRungs$School" "kinds" "[I") (by decide +kernel)
  have lf25 := hts (.fieldLink RX3 25 "ThursdayRungs$School" "heardChild" "[I") (by decide +kernel)
  have lf28 := hts (.fieldLink RX3 28 "ThursdayRungs$School" "heardKnew" "[I") (by decide +kernel)
  have lf31 := hts (.fieldLink RX3 31 "ThursdayRungs$School" "heardTaught" "[I") (by decide +kernel)
  have lf38 := hts (.fieldLink RX3 38 "ThursdayRungs$School" "heard" "I") (by decide +kernel)
  have hl := lv_entry ([.ref q0, .int (nI c), .int (sl)]) (n := 4) (Nat.le_of_ble_eq_true rfl)
  rw [lg_entry_eq]
  generalize (lg_sl ([.ref q0, .int (nI c), .int (sl)]) ++ List.replicate (4 - (lg_sl ([.ref q0, .int (nI c), .int (sl)])).length) Slot.unset).toArray = ls at hl ⊢
  have hl : lv_has ls 4 [(0, .ref q0), (1, .int (nI c)), (2, .int (sl))] := hl
  refine lv_iconst (v := nI 0) hx hb dX3_explainsHeard_0 (by decide) ?_
  refine lv_istore_n (lv' := [(3, .int (nI 0)), (0, .ref q0), (1, .int (nI c)), (2, .int (sl))]) hx hb dX3_explainsHeard_1 rfl hl (by decide) rfl (fun ls hl => ?_)
  have lp2 : ∀ (w : Nat) (k : Nat), h - k < w → k ≤ h → exP fc fw ft (fk c) (nI c) sl k → ∀ (ls : Array Slot), lv_has ls 4 [(0, .ref q0), (1, .int (nI c)), (2, .int (sl)), (3, .int (nI k))] → W p l e (headSpec wsX3_explainsHeard ({ frames := 1, cells := 0, slots := 0, locals := 22 })).room s m ([.ref q0, .int (nI c), .int (sl)] : List Value).toArray below meth co s.heap [] 0 0 (MQ below (QRi ((if (exP fc fw ft (fk c) (nI c) sl h) then nI 1 else nI 0))) ([.ref q0, .int (nI c), .int (sl)] : List Value).toArray s 0 0 noF) (F0 m 2 ls []) := by
    intro w
    induction w with
    | zero => intro k h0; exact absurd h0 (Nat.not_lt_zero _)
    | succ w ih2 =>
      intro k hm_1 hk hL ls hl
      refine lv_iload_n hx hb dX3_explainsHeard_2 rfl (lv_at hl 3 rfl) ?_
      refine lv_aload_n hx hb dX3_explainsHeard_3 rfl (lv_at hl 0 rfl) ?_
      refine va_get (D := (dC, dI)) (ci := 2) (v := .int (nI h)) (C := RX3) (T := TX3) (N := 11) hx hb hts inX3 hown hK hP 0 rfl rfl 8 (by decide) lf38 (fun _ h9 => h9) rfl dX3_explainsHeard_4 ?_
      refine w_ci_ge (tgt := 53) hx hb (by omega) (by omega) dX3_explainsHeard_7 (by decide) (fun c_2 => ?_) (fun c_2 => ?_)
      · skip
        refine lv_iconst (v := nI 1) hx hb dX3_explainsHeard_53 (by decide) ?_
        exact retRz hx hb hr hlocks rfl (by exact w_ite1 (by rw [show h = k by omega]; exact hL)) dX3_explainsHeard_54
      · skip
        refine lv_aload_n hx hb dX3_explainsHeard_10 rfl (lv_at hl 0 rfl) ?_
        refine va_get (D := (dC, dI)) (ci := 2) (v := .ref q5) (C := RX3) (T := TX3) (N := 11) hx hb hts inX3 hown hK hP 0 rfl rfl 4 (by decide) lf25 (fun _ h9 => h9) rfl dX3_explainsHeard_11 ?_
        refine lv_iload_n hx hb dX3_explainsHeard_14 rfl (lv_at hl 3 rfl) ?_
        refine w_iald (k := k) hx hb hK hP 5 0 rfl rfl (by omega) (by decide) dX3_explainsHeard_15 ?_
        refine lv_iload_n hx hb dX3_explainsHeard_16 rfl (lv_at hl 1 rfl) ?_
        refine lv_icmp_ne (tgt := 47) hx hb dX3_explainsHeard_17 (by decide) (fun c_3 => ?_) (fun c_3 => ?_)
        · skip
          refine lv_iinc (v := nI (k + 1)) (lv' := [(3, .int (nI (k + 1))), (0, .ref q0), (1, .int (nI c)), (2, .int (sl))]) hx hb dX3_explainsHeard_47 hl (k := 3) rfl w_inc1 (by decide) rfl (fun ls hl => ?_)
          refine lv_goto (tgt := 2) hx hb dX3_explainsHeard_50 (by decide) ?_
          exact ih2 (k + 1) (by omega) (by first | omega | with_reducible assumption | (first | with_reducible rfl | exact (if_pos (c_3)).symm | exact (if_neg (c_3)).symm | (simp [hh8, hc, hk, hL, c_2, c_3]; done) | omega | rfl)) (by exact lt_s hL (by first | exact fun _ => c_3 | exact fun q => absurd q c_3)) ls (lv_sub hl [1, 2, 3, 0] rfl)
        · skip
          refine lv_aload_n hx hb dX3_explainsHeard_20 rfl (lv_at hl 0 rfl) ?_
          refine va_get (D := (dC, dI)) (ci := 2) (v := .ref q1) (C := RX3) (T := TX3) (N := 11) hx hb hts inX3 hown hK hP 0 rfl rfl 0 (by decide) lf11 (fun _ h9 => h9) rfl dX3_explainsHeard_21 ?_
          refine lv_iload_n hx hb dX3_explainsHeard_24 rfl (lv_at hl 1 rfl) ?_
          refine w_iald (k := c) hx hb hK hP 1 0 rfl rfl (by omega) (by decide) dX3_explainsHeard_25 ?_
          refine lv_iload_n hx hb dX3_explainsHeard_26 rfl (lv_at hl 2 rfl) ?_
          refine lv_aload_n hx hb dX3_explainsHeard_27 rfl (lv_at hl 0 rfl) ?_
          refine va_get (D := (dC, dI)) (ci := 2) (v := .ref q6) (C := RX3) (T := TX3) (N := 11) hx hb hts inX3 hown hK hP 0 rfl rfl 5 (by decide) lf28 (fun _ h9 => h9) rfl dX3_explainsHeard_28 ?_
          refine lv_iload_n hx hb dX3_explainsHeard_31 rfl (lv_at hl 3 rfl) ?_
          refine w_iald (k := k) hx hb hK hP 6 0 rfl rfl (by omega) (by decide) dX3_explainsHeard_32 ?_
          have hPc := hP.sub (ws' := []) [] rfl
          refine callRi (v := (tb (fk c) sl (fw k))) (W.runS (As := [.int (fk c), .int (sl), .int (fw k)]) (rest := []) ⟨hx, hb, hml, hown, hts⟩ (k_X1_passesOn l dC dI cI cZ (fk c) (sl) (fw k)) (va_cwS 3 hts gX3_explainsHeard_X1_passesOn rfl rfl rfl (by decide +kernel) ⟨Nat.le_of_ble_eq_true rfl, Nat.le_of_ble_eq_true rfl⟩) (preRS hK hPc) rfl rfl hl.1 rfl (lv_room (Nat.le_of_ble_eq_true rfl)) dX3_explainsHeard_33 ⟨Nat.zero_le _, Nat.zero_le _⟩) ?_
          refine lv_aload_n hx hb dX3_explainsHeard_36 rfl (lv_at hl 0 rfl) ?_
          refine va_get (D := (dC, dI)) (ci := 2) (v := .ref q7) (C := RX3) (T := TX3) (N := 11) hx hb hts inX3 hown hK hP 0 rfl rfl 6 (by decide) lf31 (fun _ h9 => h9) rfl dX3_explainsHeard_37 ?_
          refine lv_iload_n hx hb dX3_explainsHeard_40 rfl (lv_at hl 3 rfl) ?_
          refine w_iald (k := k) hx hb hK hP 7 0 rfl rfl (by omega) (by decide) dX3_explainsHeard_41 ?_
          refine lv_icmp_eq (tgt := 47) hx hb dX3_explainsHeard_42 (by decide) (fun c_4 => ?_) (fun c_4 => ?_)
          · skip
            refine lv_iinc (v := nI (k + 1)) (lv' := [(3, .int (nI (k + 1))), (0, .ref q0), (1, .int (nI c)), (2, .int (sl))]) hx hb dX3_explainsHeard_47 hl (k := 3) rfl w_inc1 (by decide) rfl (fun ls hl => ?_)
            refine lv_goto (tgt := 2) hx hb dX3_explainsHeard_50 (by decide) ?_
            exact ih2 (k + 1) (by omega) (by first | omega | with_reducible assumption | (first | with_reducible rfl | exact (if_pos (c_4)).symm | exact (if_neg (c_4)).symm | (simp [hh8, hc, hk, hL, c_2, c_3, c_4]; done) | omega | rfl)) (by exact lt_s hL (by first | exact fun _ => c_4 | exact fun q => absurd q c_4)) ls (lv_sub hl [1, 2, 3, 0] rfl)
          · skip
            refine lv_iconst (v := nI 0) hx hb dX3_explainsHeard_45 (by decide) ?_
            exact retRz hx hb hr hlocks rfl (by exact w_ite0 (fun q => c_4 (q k (by omega) c_3))) dX3_explainsHeard_46
  exact lp2 (h - 0 + 1) (0) (Nat.lt_succ_self _) (by first | omega | with_reducible assumption | (first | with_reducible rfl | exact (if_pos (hc)).symm | exact (if_neg (hc)).symm | (simp [hh8, hc]; done) | omega | rfl)) (by intro i hi; omega) ls (lv_sub hl [1, 2, 3, 0] rfl)
set_option maxHeartbeats 4000000 in
set_option maxRecDepth 100000 in
theorem k_X3_possibleSlips (l : Launch) (dC : Nat → ClassId) (dI : Nat → Nat → Nat) (cI cZ : ClassId) (q0 q1 q2 q3 q4 q5 q6 q7 : Nat) (fk fs fn fi fc fw ft : Nat → Int32) (n h : Nat) (th tt : Int32) (c : Nat) (hh8 : h ≤ 8) (hc : c < 6) : Met l yX3_possibleSlips wsX3_possibleSlips ({ frames := 2, cells := 0, slots := 0, locals := 45 }) (va_Pc [.ref q0, .int (nI c)] (PR (dC, dI) cI cZ [(q0, .inr (2, [.ref q1, .ref q2, .ref q3, .ref q4, .ref q5, .ref q6, .ref q7, .int (nI n), .int (nI h), .int (th), .int (tt)])), (q1, .inl (cI, 6, .inl (fk))), (q2, .inl (cI, 6, .inl (fs))), (q3, .inl (cI, 6, .inl (fn))), (q4, .inl (cZ, 6, .inl (fi))), (q5, .inl (cI, 8, .inl (fc))), (q6, .inl (cI, 8, .inl (fw))), (q7, .inl (cI, 8, .inl (ft)))])) (QRi ((slF fc fw ft (fk c) (nI c) h 10))) 0 0 noF := by
  refine Met.ofW (cc := cX3_possibleSlips) (maxL := 4) (ret := (some .int)) (by decide) rfl ?_
  intro p e s m args below meth co s₁ B hml hv
  obtain ⟨rfl, hP, hK⟩ := hv
  have hx := B.exec
  have hb := B.bytes
  have hr := B.returns
  have hts := atoms_spec (ws := wsX3_possibleSlips) B.pre
  have hown : s.vm.findClass RX3 = some m.cls := findClass_of_methodNamed B.named
  have hlocks := B.notSynchronized
  have hl := lv_entry ([.ref q0, .int (nI c)]) (n := 4) (Nat.le_of_ble_eq_true rfl)
  rw [lg_entry_eq]
  generalize (lg_sl ([.ref q0, .int (nI c)]) ++ List.replicate (4 - (lg_sl ([.ref q0, .int (nI c)])).length) Slot.unset).toArray = ls at hl ⊢
  have hl : lv_has ls 4 [(0, .ref q0), (1, .int (nI c))] := hl
  refine lv_iconst (v := nI 0) hx hb dX3_possibleSlips_0 (by decide) ?_
  refine lv_istore_n (lv' := [(2, .int (nI 0)), (0, .ref q0), (1, .int (nI c))]) hx hb dX3_possibleSlips_1 rfl hl (by decide) rfl (fun ls hl => ?_)
  refine lv_iconst (v := nI 0) hx hb dX3_possibleSlips_2 (by decide) ?_
  refine lv_istore_n (lv' := [(3, .int (nI 0)), (2, .int (nI 0)), (0, .ref q0), (1, .int (nI c))]) hx hb dX3_possibleSlips_3 rfl hl (by decide) rfl (fun ls hl => ?_)
  have lp4 : ∀ (w : Nat) (k : Nat), 10 - k < w → k ≤ 10 → ∀ (ls : Array Slot), lv_has ls 4 [(0, .ref q0), (1, .int (nI c)), (2, .int ((slF fc fw ft (fk c) (nI c) h k))), (3, .int (nI k))] → W p l e (headSpec wsX3_possibleSlips ({ frames := 2, cells := 0, slots := 0, locals := 45 })).room s m ([.ref q0, .int (nI c)] : List Value).toArray below meth co s.heap [] 0 0 (MQ below (QRi ((slF fc fw ft (fk c) (nI c) h 10))) ([.ref q0, .int (nI c)] : List Value).toArray s 0 0 noF) (F0 m 4 ls []) := by
    intro w
    induction w with
    | zero => intro k h0; exact absurd h0 (Nat.not_lt_zero _)
    | succ w ih4 =>
      intro k hm_1 hk ls hl
      refine lv_iload_n hx hb dX3_possibleSlips_4 rfl (lv_at hl 3 rfl) ?_
      refine lv_bipush (v := nI 10) hx hb dX3_possibleSlips_5 (by decide) ?_
      refine w_ci_ge (tgt := 31) hx hb (by omega) (by omega) dX3_possibleSlips_7 (by decide) (fun c_2 => ?_) (fun c_2 => ?_)
      · skip
        refine lv_iload_n hx hb dX3_possibleSlips_31 rfl (lv_at hl 2 rfl) ?_
        exact retRi hx hb hr hlocks (by rw [show k = 10 by omega]) dX3_possibleSlips_32
      · skip
        refine lv_aload_n hx hb dX3_possibleSlips_10 rfl (lv_at hl 0 rfl) ?_
        refine lv_iload_n hx hb dX3_possibleSlips_11 rfl (lv_at hl 1 rfl) ?_
        refine lv_iload_n hx hb dX3_possibleSlips_12 rfl (lv_at hl 3 rfl) ?_
        have hPc := hP.sub (ws' := [(q0, .inr (2, [.ref q1, .ref q2, .ref q3, .ref q4, .ref q5, .ref q6, .ref q7, .int (nI n), .int (nI h), .int (th), .int (tt)])), (q1, .inl (cI, 6, .inl (fk))), (q2, .inl (cI, 6, .inl (fs))), (q3, .inl (cI, 6, .inl (fn))), (q4, .inl (cZ, 6, .inl (fi))), (q5, .inl (cI, 8, .inl (fc))), (q6, .inl (cI, 8, .inl (fw))), (q7, .inl (cI, 8, .inl (ft)))]) [0, 1, 2, 3, 4, 5, 6, 7] rfl
        refine callRi (v := (if (exP fc fw ft (fk c) (nI c) (nI k) h) then nI 1 else nI 0)) (W.runV (As := [.int (nI c), .int (nI k)]) (rest := []) ⟨hx, hb, hml, hown, hts⟩ (k_X3_explainsHeard l dC dI cI cZ q0 q1 q2 q3 q4 q5 q6 q7 (fk) (fs) (fn) (fi) (fc) (fw) (ft) (n) (h) (th) (tt) (c) (nI k) (by first | omega | with_reducible assumption | (simp; omega)) (by first | omega | with_reducible assumption | (simp; omega))) (cwV 2 hts gX3_possibleSlips_X3_explainsHeard rfl rfl rfl (by decide +kernel) ⟨Nat.le_of_ble_eq_true rfl, Nat.le_of_ble_eq_true rfl⟩) (preRV (q := (RX3, TX3, 11)) (ci := 2) hK hPc rfl rfl) rfl rfl hl.1 rfl (lv_room (Nat.le_of_ble_eq_true rfl)) dX3_possibleSlips_13 ⟨Nat.zero_le _, Nat.zero_le _⟩) ?_
        refine w_ifeqB (tgt := 25) hx hb dX3_possibleSlips_16 (by decide) (fun c_3 => ?_) (fun c_3 => ?_)
        · skip
          refine lv_iinc (v := nI (k + 1)) (lv' := [(3, .int (nI (k + 1))), (0, .ref q0), (1, .int (nI c)), (2, .int ((slF fc fw ft (fk c) (nI c) h k)))]) hx hb dX3_possibleSlips_25 hl (k := 3) rfl w_inc1 (by decide) rfl (fun ls hl => ?_)
          refine lv_goto (tgt := 4) hx hb dX3_possibleSlips_28 (by decide) ?_
          have he_4 : ((slF fc fw ft (fk c) (nI c) h k) : Int32) = (slF fc fw ft (fk c) (nI c) h (k + 1)) := by first | with_reducible rfl | exact (if_pos (c_3)).symm | exact (if_neg (c_3)).symm | (simp [hh8, hc, hk, c_2, c_3]; done) | omega | rfl
          have hl := lv_cong hl (show ([(3, .int (nI (k + 1))), (0, .ref q0), (1, .int (nI c)), (2, .int ((slF fc fw ft (fk c) (nI c) h k)))] : List (Nat × Value)) = [(3, .int (nI ((k + 1)))), (0, .ref q0), (1, .int (nI c)), (2, .int ((slF fc fw ft (fk c) (nI c) h (k + 1))))] by rw [← he_4])
          exact ih4 (k + 1) (by omega) (by first | omega | with_reducible assumption | (first | with_reducible rfl | exact (if_pos (c_3)).symm | exact (if_neg (c_3)).symm | (simp [hh8, hc, hk, c_2, c_3]; done) | omega | rfl)) ls (lv_sub hl [1, 2, 3, 0] rfl)
        · skip
          refine lv_iload_n hx hb dX3_possibleSlips_19 rfl (lv_at hl 2 rfl) ?_
          refine lv_iconst (v := nI 1) hx hb dX3_possibleSlips_20 (by decide) ?_
          refine lv_iload_n hx hb dX3_possibleSlips_21 rfl (lv_at hl 3 rfl) ?_
          refine lv_ishl hx hb dX3_possibleSlips_22 ?_
          refine lv_ior hx hb dX3_possibleSlips_23 ?_
          refine lv_istore_n (lv' := [(2, .int (((slF fc fw ft (fk c) (nI c) h k)) ||| ((nI 1) <<< ((nI k) &&& 31)))), (0, .ref q0), (1, .int (nI c)), (3, .int (nI k))]) hx hb dX3_possibleSlips_24 rfl hl (by decide) rfl (fun ls hl => ?_)
          refine lv_iinc (v := nI (k + 1)) (lv' := [(3, .int (nI (k + 1))), (2, .int (((slF fc fw ft (fk c) (nI c) h k)) ||| ((nI 1) <<< ((nI k) &&& 31)))), (0, .ref q0), (1, .int (nI c))]) hx hb dX3_possibleSlips_25 hl (k := 3) rfl w_inc1 (by decide) rfl (fun ls hl => ?_)
          refine lv_goto (tgt := 4) hx hb dX3_possibleSlips_28 (by decide) ?_
          have he_5 : (((slF fc fw ft (fk c) (nI c) h k)) ||| ((nI 1) <<< ((nI k) &&& 31)) : Int32) = (slF fc fw ft (fk c) (nI c) h (k + 1)) := by first | with_reducible rfl | exact (if_pos (c_3)).symm | exact (if_neg (c_3)).symm | (simp [hh8, hc, hk, c_2, c_3]; done) | omega | rfl
          have hl := lv_cong hl (show ([(3, .int (nI (k + 1))), (2, .int (((slF fc fw ft (fk c) (nI c) h k)) ||| ((nI 1) <<< ((nI k) &&& 31)))), (0, .ref q0), (1, .int (nI c))] : List (Nat × Value)) = [(3, .int (nI ((k + 1)))), (2, .int ((slF fc fw ft (fk c) (nI c) h (k + 1)))), (0, .ref q0), (1, .int (nI c))] by rw [← he_5])
          exact ih4 (k + 1) (by omega) (by first | omega | with_reducible assumption | (first | with_reducible rfl | exact (if_pos (c_3)).symm | exact (if_neg (c_3)).symm | (simp [hh8, hc, hk, c_2, c_3]; done) | omega | rfl)) ls (lv_sub hl [2, 3, 1, 0] rfl)
  have he_6 : (nI 0 : Int32) = (slF fc fw ft (fk c) (nI c) h 0) := by first | with_reducible rfl | exact (if_pos (hc)).symm | exact (if_neg (hc)).symm | (simp [hh8, hc]; done) | omega | rfl
  have hl := lv_cong hl (show ([(3, .int (nI 0)), (2, .int (nI 0)), (0, .ref q0), (1, .int (nI c))] : List (Nat × Value)) = [(3, .int (nI 0)), (2, .int ((slF fc fw ft (fk c) (nI c) h 0))), (0, .ref q0), (1, .int (nI c))] by rw [← he_6])
  exact lp4 (10 - 0 + 1) (0) (Nat.lt_succ_self _) (by first | omega | with_reducible assumption | (first | with_reducible rfl | exact (if_pos (hc)).symm | exact (if_neg (hc)).symm | (simp [hh8, hc]; done) | omega | rfl)) ls (lv_sub hl [2, 3, 1, 0] rfl)
set_option maxHeartbeats 4000000 in
set_option maxRecDepth 100000 in
theorem k_X3_leftBy (l : Launch) (dC : Nat → ClassId) (dI : Nat → Nat → Nat) (cI cZ : ClassId) (k : Int32) (b : Int32) (r : Int32) (x : Int32) : Met l yX3_leftBy wsX3_leftBy ({ frames := 1, cells := 0, slots := 0, locals := 22 }) (va_Pc [.int (k), .int (b), .int (r), .int (x)] (PR (dC, dI) cI cZ [])) (QRi (nI (lbF b k r x 10))) 0 0 noF := by
  refine Met.ofW (cc := cX3_leftBy) (maxL := 6) (ret := (some .int)) (by decide) rfl ?_
  intro p e s m args below meth co s₁ B hml hv
  obtain ⟨rfl, hP, hK⟩ := hv
  have hx := B.exec
  have hb := B.bytes
  have hr := B.returns
  have hts := atoms_spec (ws := wsX3_leftBy) B.pre
  have hown : s.vm.findClass RX3 = some m.cls := findClass_of_methodNamed B.named
  have hlocks := B.notSynchronized
  have hl := lv_entry ([.int (k), .int (b), .int (r), .int (x)]) (n := 6) (Nat.le_of_ble_eq_true rfl)
  rw [lg_entry_eq]
  generalize (lg_sl ([.int (k), .int (b), .int (r), .int (x)]) ++ List.replicate (6 - (lg_sl ([.int (k), .int (b), .int (r), .int (x)])).length) Slot.unset).toArray = ls at hl ⊢
  have hl : lv_has ls 6 [(0, .int (k)), (1, .int (b)), (2, .int (r)), (3, .int (x))] := hl
  refine lv_iconst (v := nI 0) hx hb dX3_leftBy_0 (by decide) ?_
  refine lv_istore (lv' := [(4, .int (nI 0)), (0, .int (k)), (1, .int (b)), (2, .int (r)), (3, .int (x))]) hx hb dX3_leftBy_1 hl (by decide) rfl (fun ls hl => ?_)
  refine lv_iconst (v := nI 0) hx hb dX3_leftBy_3 (by decide) ?_
  refine lv_istore (lv' := [(5, .int (nI 0)), (4, .int (nI 0)), (0, .int (k)), (1, .int (b)), (2, .int (r)), (3, .int (x))]) hx hb dX3_leftBy_4 hl (by decide) rfl (fun ls hl => ?_)
  have lp6 : ∀ (w : Nat) (v : Nat), 10 - v < w → v ≤ 10 → ∀ (ls : Array Slot), lv_has ls 6 [(0, .int (k)), (1, .int (b)), (2, .int (r)), (3, .int (x)), (4, .int (nI (lbF b k r x v))), (5, .int (nI v))] → W p l e (headSpec wsX3_leftBy ({ frames := 1, cells := 0, slots := 0, locals := 22 })).room s m ([.int (k), .int (b), .int (r), .int (x)] : List Value).toArray below meth co s.heap [] 0 0 (MQ below (QRi (nI (lbF b k r x 10))) ([.int (k), .int (b), .int (r), .int (x)] : List Value).toArray s 0 0 noF) (F0 m 6 ls []) := by
    intro w
    induction w with
    | zero => intro v h0; exact absurd h0 (Nat.not_lt_zero _)
    | succ w ih6 =>
      intro v hm_1 hv ls hl
      refine lv_iload hx hb dX3_leftBy_6 (lv_at hl 5 rfl) ?_
      refine lv_bipush (v := nI 10) hx hb dX3_leftBy_8 (by decide) ?_
      refine w_ci_ge (tgt := 43) hx hb (by omega) (by omega) dX3_leftBy_10 (by decide) (fun c_2 => ?_) (fun c_2 => ?_)
      · skip
        refine lv_iload hx hb dX3_leftBy_43 (lv_at hl 4 rfl) ?_
        exact retRi hx hb hr hlocks (by rw [show v = 10 by omega]) dX3_leftBy_45
      · skip
        refine lv_iload_n hx hb dX3_leftBy_13 rfl (lv_at hl 1 rfl) ?_
        refine lv_iload hx hb dX3_leftBy_14 (lv_at hl 5 rfl) ?_
        refine lv_ishr hx hb dX3_leftBy_16 ?_
        refine lv_iconst (v := nI 1) hx hb dX3_leftBy_17 (by decide) ?_
        refine lv_iand hx hb dX3_leftBy_18 ?_
        refine lv_iconst (v := nI 1) hx hb dX3_leftBy_19 (by decide) ?_
        refine lv_icmp_ne (tgt := 37) hx hb dX3_leftBy_20 (by decide) (fun c_3 => ?_) (fun c_3 => ?_)
        · skip
          refine lv_iinc (v := nI (v + 1)) (lv' := [(5, .int (nI (v + 1))), (0, .int (k)), (1, .int (b)), (2, .int (r)), (3, .int (x)), (4, .int (nI (lbF b k r x v)))]) hx hb dX3_leftBy_37 hl (k := 5) rfl w_inc1 (by decide) rfl (fun ls hl => ?_)
          refine lv_goto (tgt := 6) hx hb dX3_leftBy_40 (by decide) ?_
          have he_4 : (nI (lbF b k r x v) : Int32) = nI (lbF b k r x (v + 1)) := by simp [lbF, c_2, c_3]
          have hl := lv_cong hl (show ([(5, .int (nI (v + 1))), (0, .int (k)), (1, .int (b)), (2, .int (r)), (3, .int (x)), (4, .int (nI (lbF b k r x v)))] : List (Nat × Value)) = [(5, .int (nI ((v + 1)))), (0, .int (k)), (1, .int (b)), (2, .int (r)), (3, .int (x)), (4, .int (nI (lbF b k r x (v + 1))))] by rw [← he_4])
          exact ih6 (v + 1) (by omega) (by first | omega | with_reducible assumption | (first | with_reducible rfl | exact (if_pos (c_3)).symm | exact (if_neg (c_3)).symm | (simp [lbF, hv, c_2, c_3]; done) | omega | rfl)) ls (lv_sub hl [1, 2, 3, 4, 5, 0] rfl)
        · skip
          refine lv_iload_n hx hb dX3_leftBy_23 rfl (lv_at hl 0 rfl) ?_
          refine lv_iload hx hb dX3_leftBy_24 (lv_at hl 5 rfl) ?_
          refine lv_iload_n hx hb dX3_leftBy_26 rfl (lv_at hl 2 rfl) ?_
          have hPc := hP.sub (ws' := []) [] rfl
          refine callRi (v := (tb k (nI v) r)) (W.runS (As := [.int (k), .int (nI v), .int (r)]) (rest := []) ⟨hx, hb, hml, hown, hts⟩ (k_X1_passesOn l dC dI cI cZ (k) (nI v) (r)) (va_cwS 3 hts gX3_leftBy_X1_passesOn rfl rfl rfl (by decide +kernel) ⟨Nat.le_of_ble_eq_true rfl, Nat.le_of_ble_eq_true rfl⟩) (preRS hK hPc) rfl rfl hl.1 rfl (lv_room (Nat.le_of_ble_eq_true rfl)) dX3_leftBy_27 ⟨Nat.zero_le _, Nat.zero_le _⟩) ?_
          refine lv_iload_n hx hb dX3_leftBy_30 rfl (lv_at hl 3 rfl) ?_
          refine lv_icmp_ne (tgt := 37) hx hb dX3_leftBy_31 (by decide) (fun c_5 => ?_) (fun c_5 => ?_)
          · skip
            refine lv_iinc (v := nI (v + 1)) (lv' := [(5, .int (nI (v + 1))), (0, .int (k)), (1, .int (b)), (2, .int (r)), (3, .int (x)), (4, .int (nI (lbF b k r x v)))]) hx hb dX3_leftBy_37 hl (k := 5) rfl w_inc1 (by decide) rfl (fun ls hl => ?_)
            refine lv_goto (tgt := 6) hx hb dX3_leftBy_40 (by decide) ?_
            have he_6 : (nI (lbF b k r x v) : Int32) = nI (lbF b k r x (v + 1)) := by simp [lbF, c_3, c_5]
            have hl := lv_cong hl (show ([(5, .int (nI (v + 1))), (0, .int (k)), (1, .int (b)), (2, .int (r)), (3, .int (x)), (4, .int (nI (lbF b k r x v)))] : List (Nat × Value)) = [(5, .int (nI ((v + 1)))), (0, .int (k)), (1, .int (b)), (2, .int (r)), (3, .int (x)), (4, .int (nI (lbF b k r x (v + 1))))] by rw [← he_6])
            exact ih6 (v + 1) (by omega) (by first | omega | with_reducible assumption | (first | with_reducible rfl | exact (if_pos (c_5)).symm | exact (if_neg (c_5)).symm | (simp [lbF, hv, c_2, c_3, c_5]; done) | omega | rfl)) ls (lv_sub hl [1, 2, 3, 4, 5, 0] rfl)
          · skip
            refine lv_iinc (v := nI (lbF b k r x v + 1)) (lv' := [(4, .int (nI (lbF b k r x v + 1))), (0, .int (k)), (1, .int (b)), (2, .int (r)), (3, .int (x)), (5, .int (nI v))]) hx hb dX3_leftBy_34 hl (k := 4) rfl w_inc1 (by decide) rfl (fun ls hl => ?_)
            refine lv_iinc (v := nI (v + 1)) (lv' := [(5, .int (nI (v + 1))), (4, .int (nI (lbF b k r x v + 1))), (0, .int (k)), (1, .int (b)), (2, .int (r)), (3, .int (x))]) hx hb dX3_leftBy_37 hl (k := 5) rfl w_inc1 (by decide) rfl (fun ls hl => ?_)
            refine lv_goto (tgt := 6) hx hb dX3_leftBy_40 (by decide) ?_
            have he_7 : (nI (lbF b k r x v + 1) : Int32) = nI (lbF b k r x (v + 1)) := by simp [lbF, c_3, c_5]
            have hl := lv_cong hl (show ([(5, .int (nI (v + 1))), (4, .int (nI (lbF b k r x v + 1))), (0, .int (k)), (1, .int (b)), (2, .int (r)), (3, .int (x))] : List (Nat × Value)) = [(5, .int (nI ((v + 1)))), (4, .int (nI (lbF b k r x (v + 1)))), (0, .int (k)), (1, .int (b)), (2, .int (r)), (3, .int (x))] by rw [← he_7])
            exact ih6 (v + 1) (by omega) (by first | omega | with_reducible assumption | (first | with_reducible rfl | exact (if_pos (c_5)).symm | exact (if_neg (c_5)).symm | (simp [lbF, hv, c_2, c_3, c_5]; done) | omega | rfl)) ls (lv_sub hl [2, 3, 4, 5, 1, 0] rfl)
  have he_8 : (nI 0 : Int32) = nI (lbF b k r x 0) := by first | with_reducible rfl | exact (if_pos (trivial)).symm | exact (if_neg (trivial)).symm | (simp [lbF]; done) | omega | rfl
  have hl := lv_cong hl (show ([(5, .int (nI 0)), (4, .int (nI 0)), (0, .int (k)), (1, .int (b)), (2, .int (r)), (3, .int (x))] : List (Nat × Value)) = [(5, .int (nI 0)), (4, .int (nI (lbF b k r x 0))), (0, .int (k)), (1, .int (b)), (2, .int (r)), (3, .int (x))] by rw [← he_8])
  exact lp6 (10 - 0 + 1) (0) (Nat.lt_succ_self _) (by first | omega | with_reducible assumption | (first | with_reducible rfl | exact (if_pos (trivial)).symm | exact (if_neg (trivial)).symm | (simp [lbF]; done) | omega | rfl)) ls (lv_sub hl [2, 3, 4, 5, 1, 0] rfl)
set_option maxHeartbeats 4000000 in
set_option maxRecDepth 100000 in
theorem k_X3_worstLeft (l : Launch) (dC : Nat → ClassId) (dI : Nat → Nat → Nat) (cI cZ : ClassId) (k : Int32) (b : Int32) (r : Int32) : Met l yX3_worstLeft wsX3_worstLeft ({ frames := 2, cells := 0, slots := 0, locals := 47 }) (va_Pc [.int (k), .int (b), .int (r)] (PR (dC, dI) cI cZ [])) (QRi (nI (wlF b k r 10 12))) 0 0 noF := by
  refine Met.ofW (cc := cX3_worstLeft) (maxL := 5) (ret := (some .int)) (by decide) rfl ?_
  intro p e s m args below meth co s₁ B hml hv
  obtain ⟨rfl, hP, hK⟩ := hv
  have hx := B.exec
  have hb := B.bytes
  have hr := B.returns
  have hts := atoms_spec (ws := wsX3_worstLeft) B.pre
  have hown : s.vm.findClass RX3 = some m.cls := findClass_of_methodNamed B.named
  have hlocks := B.notSynchronized
  have lcdmax := hts (.code Lib.Math.max.name Lib.Math.max.code 2 (some .int)) (by decide +kernel)
  have lim := hts (.initialized "java/lang/Math") (by decide +kernel)
  have lk120 := hts (.methodLink RX3 120 Lib.Math.max.name) (by decide +kernel)
  have lsmax := hts (.static Lib.Math.max.name) (by decide +kernel)
  have hl := lv_entry ([.int (k), .int (b), .int (r)]) (n := 5) (Nat.le_of_ble_eq_true rfl)
  rw [lg_entry_eq]
  generalize (lg_sl ([.int (k), .int (b), .int (r)]) ++ List.replicate (5 - (lg_sl ([.int (k), .int (b), .int (r)])).length) Slot.unset).toArray = ls at hl ⊢
  have hl : lv_has ls 5 [(0, .int (k)), (1, .int (b)), (2, .int (r))] := hl
  refine lv_iconst (v := nI 0) hx hb dX3_worstLeft_0 (by decide) ?_
  refine lv_istore_n (lv' := [(3, .int (nI 0)), (0, .int (k)), (1, .int (b)), (2, .int (r))]) hx hb dX3_worstLeft_1 rfl hl (by decide) rfl (fun ls hl => ?_)
  refine lv_iconst (v := nI 0) hx hb dX3_worstLeft_2 (by decide) ?_
  refine lv_istore (lv' := [(4, .int (nI 0)), (3, .int (nI 0)), (0, .int (k)), (1, .int (b)), (2, .int (r))]) hx hb dX3_worstLeft_3 hl (by decide) rfl (fun ls hl => ?_)
  have lp5 : ∀ (w : Nat) (a : Nat), 12 - a < w → a ≤ 12 → ∀ (ls : Array Slot), lv_has ls 5 [(0, .int (k)), (1, .int (b)), (2, .int (r)), (3, .int (nI (wlF b k r 10 a))), (4, .int (nI a))] → W p l e (headSpec wsX3_worstLeft ({ frames := 2, cells := 0, slots := 0, locals := 47 })).room s m ([.int (k), .int (b), .int (r)] : List Value).toArray below meth co s.heap [] 0 0 (MQ below (QRi (nI (wlF b k r 10 12))) ([.int (k), .int (b), .int (r)] : List Value).toArray s 0 0 noF) (F0 m 5 ls []) := by
    intro w
    induction w with
    | zero => intro a h0; exact absurd h0 (Nat.not_lt_zero _)
    | succ w ih5 =>
      intro a hm_1 ha ls hl
      refine lv_iload hx hb dX3_worstLeft_5 (lv_at hl 4 rfl) ?_
      refine lv_bipush (v := nI 12) hx hb dX3_worstLeft_7 (by decide) ?_
      refine w_ci_ge (tgt := 31) hx hb (by omega) (by omega) dX3_worstLeft_9 (by decide) (fun c_2 => ?_) (fun c_2 => ?_)
      · skip
        refine lv_iload_n hx hb dX3_worstLeft_31 rfl (lv_at hl 3 rfl) ?_
        exact retRi hx hb hr hlocks (by rw [show a = 12 by omega]) dX3_worstLeft_32
      · skip
        refine lv_iload_n hx hb dX3_worstLeft_12 rfl (lv_at hl 3 rfl) ?_
        refine lv_iload_n hx hb dX3_worstLeft_13 rfl (lv_at hl 0 rfl) ?_
        refine lv_iload_n hx hb dX3_worstLeft_14 rfl (lv_at hl 1 rfl) ?_
        refine lv_iload_n hx hb dX3_worstLeft_15 rfl (lv_at hl 2 rfl) ?_
        refine lv_iload hx hb dX3_worstLeft_16 (lv_at hl 4 rfl) ?_
        have hPc := hP.sub (ws' := []) [] rfl
        refine callRi (v := nI (lbF b k r (nI a) 10)) (W.runS (As := [.int (k), .int (b), .int (r), .int (nI a)]) (rest := [.int (nI (wlF b k r 10 a))]) ⟨hx, hb, hml, hown, hts⟩ (k_X3_leftBy l dC dI cI cZ (k) (b) (r) (nI a)) (va_cwS 4 hts gX3_worstLeft_X3_leftBy rfl rfl rfl (by decide +kernel) ⟨Nat.le_of_ble_eq_true rfl, Nat.le_of_ble_eq_true rfl⟩) (preRS hK hPc) rfl rfl hl.1 rfl (lv_room (Nat.le_of_ble_eq_true rfl)) dX3_worstLeft_18 ⟨Nat.zero_le _, Nat.zero_le _⟩) ?_
        refine va_mmax hx hb (by rw [hml]; exact hl.1.symm) hown lk120 lsmax lim lcdmax (Nat.le_of_ble_eq_true rfl) (Nat.le_of_ble_eq_true rfl) (Nat.zero_le _) (Nat.zero_le _) dX3_worstLeft_21 ?_
        rw [show ((if (nI (wlF b k r 10 a) : Int32) < nI (lbF b k r (nI a) 10) then nI (lbF b k r (nI a) 10) else nI (wlF b k r 10 a)) : Int32) = nI (Nat.max (wlF b k r 10 a) (lbF b k r (nI a) 10)) from w_max (Nat.lt_of_le_of_lt wlF_le (by decide)) (Nat.lt_of_le_of_lt lbF_le (by decide))]
        refine lv_istore_n (lv' := [(3, .int (nI (Nat.max (wlF b k r 10 a) (lbF b k r (nI a) 10)))), (0, .int (k)), (1, .int (b)), (2, .int (r)), (4, .int (nI a))]) hx hb dX3_worstLeft_24 rfl hl (by decide) rfl (fun ls hl => ?_)
        refine lv_iinc (v := nI (a + 1)) (lv' := [(4, .int (nI (a + 1))), (3, .int (nI (Nat.max (wlF b k r 10 a) (lbF b k r (nI a) 10)))), (0, .int (k)), (1, .int (b)), (2, .int (r))]) hx hb dX3_worstLeft_25 hl (k := 4) rfl w_inc1 (by decide) rfl (fun ls hl => ?_)
        refine lv_goto (tgt := 5) hx hb dX3_worstLeft_28 (by decide) ?_
        have he_3 : (nI (Nat.max (wlF b k r 10 a) (lbF b k r (nI a) 10)) : Int32) = nI (wlF b k r 10 (a + 1)) := by first | with_reducible rfl | exact (if_pos (c_2)).symm | exact (if_neg (c_2)).symm | (simp [ha, c_2]; done) | omega | rfl
        have hl := lv_cong hl (show ([(4, .int (nI (a + 1))), (3, .int (nI (Nat.max (wlF b k r 10 a) (lbF b k r (nI a) 10)))), (0, .int (k)), (1, .int (b)), (2, .int (r))] : List (Nat × Value)) = [(4, .int (nI ((a + 1)))), (3, .int (nI (wlF b k r 10 (a + 1)))), (0, .int (k)), (1, .int (b)), (2, .int (r))] by rw [← he_3])
        exact ih5 (a + 1) (by omega) (by first | omega | with_reducible assumption | (first | with_reducible rfl | exact (if_pos (c_2)).symm | exact (if_neg (c_2)).symm | (simp [ha, c_2]; done) | omega | rfl)) ls (lv_sub hl [2, 3, 4, 1, 0] rfl)
  have he_4 : (nI 0 : Int32) = nI (wlF b k r 10 0) := by first | with_reducible rfl | exact (if_pos (trivial)).symm | exact (if_neg (trivial)).symm | (simp []; done) | omega | rfl
  have hl := lv_cong hl (show ([(4, .int (nI 0)), (3, .int (nI 0)), (0, .int (k)), (1, .int (b)), (2, .int (r))] : List (Nat × Value)) = [(4, .int (nI 0)), (3, .int (nI (wlF b k r 10 0))), (0, .int (k)), (1, .int (b)), (2, .int (r))] by rw [← he_4])
  exact lp5 (12 - 0 + 1) (0) (Nat.lt_succ_self _) (by first | omega | with_reducible assumption | (first | with_reducible rfl | exact (if_pos (trivial)).symm | exact (if_neg (trivial)).symm | (simp []; done) | omega | rfl)) ls (lv_sub hl [2, 3, 4, 1, 0] rfl)
end
section
set_option maxHeartbeats 4000000 in
set_option maxRecDepth 100000 in
theorem k_X3_bestQuestion (l : Launch) (dC : Nat → ClassId) (dI : Nat → Nat → Nat) (cI cZ : ClassId) (q0 q1 q2 q3 q4 q5 q6 q7 : Nat) (fk fs fn fi fc fw ft : Nat → Int32) (n h : Nat) (th tt : Int32) (c : Nat) (hh8 : h ≤ 8) (hc : c < 6) : Met l yX3_bestQuestion wsX3_bestQuestion ({ frames := 3, cells := 0, slots := 0, locals := 71 }) (va_Pc [.ref q0, .int (nI c)] (PR (dC, dI) cI cZ [(q0, .inr (2, [.ref q1, .ref q2, .ref q3, .ref q4, .ref q5, .ref q6, .ref q7, .int (nI n), .int (nI h), .int (th), .int (tt)])), (q1, .inl (cI, 6, .inl (fk))), (q2, .inl (cI, 6, .inl (fs))), (q3, .inl (cI, 6, .inl (fn))), (q4, .inl (cZ, 6, .inl (fi))), (q5, .inl (cI, 8, .inl (fc))), (q6, .inl (cI, 8, .inl (fw))), (q7, .inl (cI, 8, .inl (ft)))])) (QRi ((bqA (slF fc fw ft (fk c) (nI c) h 10) (bqF (fun r => wlF (slF fc fw ft (fk c) (nI c) h 10) (fk c) (nI r) 10 12) 12).1))) 0 0 noF := by
  refine Met.ofW (cc := cX3_bestQuestion) (maxL := 7) (ret := (some .int)) (by decide) rfl ?_
  intro p e s m args below meth co s₁ B hml hv
  obtain ⟨rfl, hP, hK⟩ := hv
  have hx := B.exec
  have hb := B.bytes
  have hr := B.returns
  have hts := atoms_spec (ws := wsX3_bestQuestion) B.pre
  have hown : s.vm.findClass RX3 = some m.cls := findClass_of_methodNamed B.named
  have hlocks := B.notSynchronized
  have inX3 : ∀ w ∈ u_ws RX3 TX3 11, w ∈ wsX3_bestQuestion := by decide +kernel
  have lf11 := hts (.fieldLink RX3 11 "ThursdayRungs$School" "kinds" "[I") (by decide +kernel)
  have hl := lv_entry ([.ref q0, .int (nI c)]) (n := 7) (Nat.le_of_ble_eq_true rfl)
  rw [lg_entry_eq]
  generalize (lg_sl ([.ref q0, .int (nI c)]) ++ List.replicate (7 - (lg_sl ([.ref q0, .int (nI c)])).length) Slot.unset).toArray = ls at hl ⊢
  have hl : lv_has ls 7 [(0, .ref q0), (1, .int (nI c))] := hl
  refine lv_aload_n hx hb dX3_bestQuestion_0 rfl (lv_at hl 0 rfl) ?_
  refine lv_iload_n hx hb dX3_bestQuestion_1 rfl (lv_at hl 1 rfl) ?_
  have hPc := hP.sub (ws' := [(q0, .inr (2, [.ref q1, .ref q2, .ref q3, .ref q4, .ref q5, .ref q6, .ref q7, .int (nI n), .int (nI h), .int (th), .int (tt)])), (q1, .inl (cI, 6, .inl (fk))), (q2, .inl (cI, 6, .inl (fs))), (q3, .inl (cI, 6, .inl (fn))), (q4, .inl (cZ, 6, .inl (fi))), (q5, .inl (cI, 8, .inl (fc))), (q6, .inl (cI, 8, .inl (fw))), (q7, .inl (cI, 8, .inl (ft)))]) [0, 1, 2, 3, 4, 5, 6, 7] rfl
  refine callRi (v := (slF fc fw ft (fk c) (nI c) h 10)) (W.runV (As := [.int (nI c)]) (rest := []) ⟨hx, hb, hml, hown, hts⟩ (k_X3_possibleSlips l dC dI cI cZ q0 q1 q2 q3 q4 q5 q6 q7 (fk) (fs) (fn) (fi) (fc) (fw) (ft) (n) (h) (th) (tt) (c) (by first | omega | with_reducible assumption | (simp; omega)) (by first | omega | with_reducible assumption | (simp; omega))) (cwV 1 hts gX3_bestQuestion_X3_possibleSlips rfl rfl rfl (by decide +kernel) ⟨Nat.le_of_ble_eq_true rfl, Nat.le_of_ble_eq_true rfl⟩) (preRV (q := (RX3, TX3, 11)) (ci := 2) hK hPc rfl rfl) rfl rfl hl.1 rfl (lv_room (Nat.le_of_ble_eq_true rfl)) dX3_bestQuestion_2 ⟨Nat.zero_le _, Nat.zero_le _⟩) ?_
  refine lv_istore_n (lv' := [(2, .int ((slF fc fw ft (fk c) (nI c) h 10))), (0, .ref q0), (1, .int (nI c))]) hx hb dX3_bestQuestion_5 rfl hl (by decide) rfl (fun ls hl => ?_)
  refine lv_iconst (v := -1) hx hb dX3_bestQuestion_6 (by decide) ?_
  refine lv_istore_n (lv' := [(3, .int ((-1))), (2, .int ((slF fc fw ft (fk c) (nI c) h 10))), (0, .ref q0), (1, .int (nI c))]) hx hb dX3_bestQuestion_7 rfl hl (by decide) rfl (fun ls hl => ?_)
  refine lv_bipush (v := nI 11) hx hb dX3_bestQuestion_8 (by decide) ?_
  refine lv_istore (lv' := [(4, .int (nI 11)), (3, .int ((-1))), (2, .int ((slF fc fw ft (fk c) (nI c) h 10))), (0, .ref q0), (1, .int (nI c))]) hx hb dX3_bestQuestion_10 hl (by decide) rfl (fun ls hl => ?_)
  refine lv_iconst (v := nI 0) hx hb dX3_bestQuestion_12 (by decide) ?_
  refine lv_istore (lv' := [(5, .int (nI 0)), (4, .int (nI 11)), (3, .int ((-1))), (2, .int ((slF fc fw ft (fk c) (nI c) h 10))), (0, .ref q0), (1, .int (nI c))]) hx hb dX3_bestQuestion_13 hl (by decide) rfl (fun ls hl => ?_)
  have lp15 : ∀ (w : Nat) (k : Nat), 12 - k < w → k ≤ 12 → k = 0 ∨ ¬ (slF fc fw ft (fk c) (nI c) h 10) = 0 → ∀ (ls : Array Slot), lv_has ls 7 [(0, .ref q0), (1, .int (nI c)), (2, .int ((slF fc fw ft (fk c) (nI c) h 10))), (3, .int ((bqF (fun r => wlF (slF fc fw ft (fk c) (nI c) h 10) (fk c) (nI r) 10 12) k).1)), (4, .int (nI ((bqF (fun r => wlF (slF fc fw ft (fk c) (nI c) h 10) (fk c) (nI r) 10 12) k).2))), (5, .int (nI k))] → W p l e (headSpec wsX3_bestQuestion ({ frames := 3, cells := 0, slots := 0, locals := 71 })).room s m ([.ref q0, .int (nI c)] : List Value).toArray below meth co s.heap [] 0 0 (MQ below (QRi ((bqA (slF fc fw ft (fk c) (nI c) h 10) (bqF (fun r => wlF (slF fc fw ft (fk c) (nI c) h 10) (fk c) (nI r) 10 12) 12).1))) ([.ref q0, .int (nI c)] : List Value).toArray s 0 0 noF) (F0 m 15 ls []) := by
    intro w
    induction w with
    | zero => intro k h0; exact absurd h0 (Nat.not_lt_zero _)
    | succ w ih15 =>
      intro k hm_1 hk hbz ls hl
      refine lv_iload hx hb dX3_bestQuestion_15 (lv_at hl 5 rfl) ?_
      refine lv_bipush (v := nI 12) hx hb dX3_bestQuestion_17 (by decide) ?_
      refine w_ci_ge (tgt := 60) hx hb (by omega) (by omega) dX3_bestQuestion_19 (by decide) (fun c_2 => ?_) (fun c_2 => ?_)
      · skip
        refine lv_iload_n hx hb dX3_bestQuestion_60 rfl (lv_at hl 3 rfl) ?_
        exact retRi hx hb hr hlocks (by first | exact bqA0 c_2 hbz | exact bqA1 (by omega) hbz) dX3_bestQuestion_61
      · skip
        refine lv_iload_n hx hb dX3_bestQuestion_22 rfl (lv_at hl 2 rfl) ?_
        refine lv_if_eq (tgt := 60) hx hb dX3_bestQuestion_23 (by decide) (fun c_3 => ?_) (fun c_3 => ?_)
        · skip
          refine lv_iload_n hx hb dX3_bestQuestion_60 rfl (lv_at hl 3 rfl) ?_
          exact retRi hx hb hr hlocks (by first | exact bqA0 c_3 hbz | exact bqA1 (by omega) hbz) dX3_bestQuestion_61
        · skip
          refine lv_aload_n hx hb dX3_bestQuestion_26 rfl (lv_at hl 0 rfl) ?_
          refine va_get (D := (dC, dI)) (ci := 2) (v := .ref q1) (C := RX3) (T := TX3) (N := 11) hx hb hts inX3 hown hK hP 0 rfl rfl 0 (by decide) lf11 (fun _ h9 => h9) rfl dX3_bestQuestion_27 ?_
          refine lv_iload_n hx hb dX3_bestQuestion_30 rfl (lv_at hl 1 rfl) ?_
          refine w_iald (k := c) hx hb hK hP 1 0 rfl rfl (by omega) (by decide) dX3_bestQuestion_31 ?_
          refine lv_iload_n hx hb dX3_bestQuestion_32 rfl (lv_at hl 2 rfl) ?_
          refine lv_iload hx hb dX3_bestQuestion_33 (lv_at hl 5 rfl) ?_
          have hPc := hP.sub (ws' := []) [] rfl
          refine callRi (v := nI (wlF (slF fc fw ft (fk c) (nI c) h 10) (fk c) (nI k) 10 12)) (W.runS (As := [.int (fk c), .int ((slF fc fw ft (fk c) (nI c) h 10)), .int (nI k)]) (rest := []) ⟨hx, hb, hml, hown, hts⟩ (k_X3_worstLeft l dC dI cI cZ (fk c) ((slF fc fw ft (fk c) (nI c) h 10)) (nI k)) (va_cwS 3 hts gX3_bestQuestion_X3_worstLeft rfl rfl rfl (by decide +kernel) ⟨Nat.le_of_ble_eq_true rfl, Nat.le_of_ble_eq_true rfl⟩) (preRS hK hPc) rfl rfl hl.1 rfl (lv_room (Nat.le_of_ble_eq_true rfl)) dX3_bestQuestion_35 ⟨Nat.zero_le _, Nat.zero_le _⟩) ?_
          refine lv_istore (lv' := [(6, .int (nI (wlF (slF fc fw ft (fk c) (nI c) h 10) (fk c) (nI k) 10 12))), (0, .ref q0), (1, .int (nI c)), (2, .int ((slF fc fw ft (fk c) (nI c) h 10))), (3, .int ((bqF (fun r => wlF (slF fc fw ft (fk c) (nI c) h 10) (fk c) (nI r) 10 12) k).1)), (4, .int (nI ((bqF (fun r => wlF (slF fc fw ft (fk c) (nI c) h 10) (fk c) (nI r) 10 12) k).2))), (5, .int (nI k))]) hx hb dX3_bestQuestion_38 hl (by decide) rfl (fun ls hl => ?_)
          refine lv_iload hx hb dX3_bestQuestion_40 (lv_at hl 0 rfl) ?_
          refine lv_iload hx hb dX3_bestQuestion_42 (lv_at hl 5 rfl) ?_
          have hu := wlF_le (b := slF fc fw ft (fk c) (nI c) h 10) (k := fk c) (r := nI k) (v := 10) (a := 12)
          have hv := bqF_le (g := fun r => wlF (slF fc fw ft (fk c) (nI c) h 10) (fk c) (nI r) 10 12) (k := k)
          refine w_ci_ge (tgt := 54) hx hb (by omega) (by omega) dX3_bestQuestion_44 (by decide) (fun c_4 => ?_) (fun c_4 => ?_)
          · skip
            refine lv_iinc (v := nI (k + 1)) (lv' := [(5, .int (nI (k + 1))), (6, .int (nI (wlF (slF fc fw ft (fk c) (nI c) h 10) (fk c) (nI k) 10 12))), (0, .ref q0), (1, .int (nI c)), (2, .int ((slF fc fw ft (fk c) (nI c) h 10))), (3, .int ((bqF (fun r => wlF (slF fc fw ft (fk c) (nI c) h 10) (fk c) (nI r) 10 12) k).1)), (4, .int (nI ((bqF (fun r => wlF (slF fc fw ft (fk c) (nI c) h 10) (fk c) (nI r) 10 12) k).2)))]) hx hb dX3_bestQuestion_54 hl (k := 6) rfl w_inc1 (by decide) rfl (fun ls hl => ?_)
            refine lv_goto (tgt := 15) hx hb dX3_bestQuestion_57 (by decide) ?_
            have he_5 : ((bqF (fun r => wlF (slF fc fw ft (fk c) (nI c) h 10) (fk c) (nI r) 10 12) k).1 : Int32) = (bqF (fun r => wlF (slF fc fw ft (fk c) (nI c) h 10) (fk c) (nI r) 10 12) (k + 1)).1 := by first | (simp [bqF, c_4]; done) | (simp [bqF, Nat.not_lt.mpr c_4]; done)
            have he_6 : (nI ((bqF (fun r => wlF (slF fc fw ft (fk c) (nI c) h 10) (fk c) (nI r) 10 12) k).2) : Int32) = nI ((bqF (fun r => wlF (slF fc fw ft (fk c) (nI c) h 10) (fk c) (nI r) 10 12) (k + 1)).2) := by first | (simp [bqF, c_4]; done) | (simp [bqF, Nat.not_lt.mpr c_4]; done)
            have hl := lv_cong hl (show ([(5, .int (nI (k + 1))), (6, .int (nI (wlF (slF fc fw ft (fk c) (nI c) h 10) (fk c) (nI k) 10 12))), (0, .ref q0), (1, .int (nI c)), (2, .int ((slF fc fw ft (fk c) (nI c) h 10))), (3, .int ((bqF (fun r => wlF (slF fc fw ft (fk c) (nI c) h 10) (fk c) (nI r) 10 12) k).1)), (4, .int (nI ((bqF (fun r => wlF (slF fc fw ft (fk c) (nI c) h 10) (fk c) (nI r) 10 12) k).2)))] : List (Nat × Value)) = [(5, .int (nI ((k + 1)))), (6, .int (nI (wlF (slF fc fw ft (fk c) (nI c) h 10) (fk c) (nI k) 10 12))), (0, .ref q0), (1, .int (nI c)), (2, .int ((slF fc fw ft (fk c) (nI c) h 10))), (3, .int ((bqF (fun r => wlF (slF fc fw ft (fk c) (nI c) h 10) (fk c) (nI r) 10 12) (k + 1)).1)), (4, .int (nI ((bqF (fun r => wlF (slF fc fw ft (fk c) (nI c) h 10) (fk c) (nI r) 10 12) (k + 1)).2)))] by rw [← he_5, ← he_6])
            exact ih15 (k + 1) (by omega) (by first | omega | with_reducible assumption | (first | with_reducible rfl | exact (if_pos (c_4)).symm | exact (if_neg (c_4)).symm | (simp [hh8, hc, hk, hbz, c_2, c_3, c_4]; done) | omega | rfl)) (by exact Or.inr c_3) ls (lv_sub hl [2, 3, 4, 5, 6, 0] rfl)
          · skip
            refine lv_iload hx hb dX3_bestQuestion_47 (lv_at hl 0 rfl) ?_
            refine lv_istore (lv' := [(4, .int (nI (wlF (slF fc fw ft (fk c) (nI c) h 10) (fk c) (nI k) 10 12))), (6, .int (nI (wlF (slF fc fw ft (fk c) (nI c) h 10) (fk c) (nI k) 10 12))), (0, .ref q0), (1, .int (nI c)), (2, .int ((slF fc fw ft (fk c) (nI c) h 10))), (3, .int ((bqF (fun r => wlF (slF fc fw ft (fk c) (nI c) h 10) (fk c) (nI r) 10 12) k).1)), (5, .int (nI k))]) hx hb dX3_bestQuestion_49 hl (by decide) rfl (fun ls hl => ?_)
            refine lv_iload hx hb dX3_bestQuestion_51 (lv_at hl 6 rfl) ?_
            refine lv_istore_n (lv' := [(3, .int (nI k)), (4, .int (nI (wlF (slF fc fw ft (fk c) (nI c) h 10) (fk c) (nI k) 10 12))), (6, .int (nI (wlF (slF fc fw ft (fk c) (nI c) h 10) (fk c) (nI k) 10 12))), (0, .ref q0), (1, .int (nI c)), (2, .int ((slF fc fw ft (fk c) (nI c) h 10))), (5, .int (nI k))]) hx hb dX3_bestQuestion_53 rfl hl (by decide) rfl (fun ls hl => ?_)
            refine lv_iinc (v := nI (k + 1)) (lv' := [(5, .int (nI (k + 1))), (3, .int (nI k)), (4, .int (nI (wlF (slF fc fw ft (fk c) (nI c) h 10) (fk c) (nI k) 10 12))), (6, .int (nI (wlF (slF fc fw ft (fk c) (nI c) h 10) (fk c) (nI k) 10 12))), (0, .ref q0), (1, .int (nI c)), (2, .int ((slF fc fw ft (fk c) (nI c) h 10)))]) hx hb dX3_bestQuestion_54 hl (k := 6) rfl w_inc1 (by decide) rfl (fun ls hl => ?_)
            refine lv_goto (tgt := 15) hx hb dX3_bestQuestion_57 (by decide) ?_
            have he_7 : (nI k : Int32) = (bqF (fun r => wlF (slF fc fw ft (fk c) (nI c) h 10) (fk c) (nI r) 10 12) (k + 1)).1 := by first | (simp [bqF, c_4]; done) | (simp [bqF, Nat.not_lt.mpr c_4]; done)
            have he_8 : (nI (wlF (slF fc fw ft (fk c) (nI c) h 10) (fk c) (nI k) 10 12) : Int32) = nI ((bqF (fun r => wlF (slF fc fw ft (fk c) (nI c) h 10) (fk c) (nI r) 10 12) (k + 1)).2) := by first | (simp [bqF, c_4]; done) | (simp [bqF, Nat.not_lt.mpr c_4]; done)
            have hl := lv_cong hl (show ([(5, .int (nI (k + 1))), (3, .int (nI k)), (4, .int (nI (wlF (slF fc fw ft (fk c) (nI c) h 10) (fk c) (nI k) 10 12))), (6, .int (nI (wlF (slF fc fw ft (fk c) (nI c) h 10) (fk c) (nI k) 10 12))), (0, .ref q0), (1, .int (nI c)), (2, .int ((slF fc fw ft (fk c) (nI c) h 10)))] : List (Nat × Value)) = [(5, .int (nI ((k + 1)))), (3, .int ((bqF (fun r => wlF (slF fc fw ft (fk c) (nI c) h 10) (fk c) (nI r) 10 12) (k + 1)).1)), (4, .int (nI ((bqF (fun r => wlF (slF fc fw ft (fk c) (nI c) h 10) (fk c) (nI r) 10 12) (k + 1)).2))), (6, .int (nI (wlF (slF fc fw ft (fk c) (nI c) h 10) (fk c) (nI k) 10 12))), (0, .ref q0), (1, .int (nI c)), (2, .int ((slF fc fw ft (fk c) (nI c) h 10)))] by rw [← he_7, ← he_8])
            exact ih15 (k + 1) (by omega) (by first | omega | with_reducible assumption | (first | with_reducible rfl | exact (if_pos (c_4)).symm | exact (if_neg (c_4)).symm | (simp [hh8, hc, hk, hbz, c_2, c_3, c_4]; done) | omega | rfl)) (by exact Or.inr c_3) ls (lv_sub hl [4, 5, 6, 1, 2, 0] rfl)
  have he_9 : ((-1) : Int32) = (bqF (fun r => wlF (slF fc fw ft (fk c) (nI c) h 10) (fk c) (nI r) 10 12) 0).1 := by rfl
  have he_10 : (nI 11 : Int32) = nI ((bqF (fun r => wlF (slF fc fw ft (fk c) (nI c) h 10) (fk c) (nI r) 10 12) 0).2) := by rfl
  have hl := lv_cong hl (show ([(5, .int (nI 0)), (4, .int (nI 11)), (3, .int ((-1))), (2, .int ((slF fc fw ft (fk c) (nI c) h 10))), (0, .ref q0), (1, .int (nI c))] : List (Nat × Value)) = [(5, .int (nI 0)), (4, .int (nI ((bqF (fun r => wlF (slF fc fw ft (fk c) (nI c) h 10) (fk c) (nI r) 10 12) 0).2))), (3, .int ((bqF (fun r => wlF (slF fc fw ft (fk c) (nI c) h 10) (fk c) (nI r) 10 12) 0).1)), (2, .int ((slF fc fw ft (fk c) (nI c) h 10))), (0, .ref q0), (1, .int (nI c))] by rw [← he_9, ← he_10])
  exact lp15 (12 - 0 + 1) (0) (Nat.lt_succ_self _) (by first | omega | with_reducible assumption | (first | with_reducible rfl | exact (if_pos (hc)).symm | exact (if_neg (hc)).symm | (simp [hh8, hc]; done) | omega | rfl)) (by exact Or.inl rfl) ls (lv_sub hl [4, 5, 3, 2, 1, 0] rfl)
end
section
set_option maxHeartbeats 4000000 in
set_option maxRecDepth 100000 in
theorem k_X3_knowing (l : Launch) (dC : Nat → ClassId) (dI : Nat → Nat → Nat) (cI cZ : ClassId) (q0 q1 q2 q3 q4 q5 q6 q7 : Nat) (fk fs fn fi fc fw ft : Nat → Int32) (n h : Nat) (th tt : Int32) (hn6 : n ≤ 6) : Met l yX3_knowing wsX3_knowing ({ frames := 0, cells := 0, slots := 0, locals := 0 }) (va_Pc [.ref q0] (PR (dC, dI) cI cZ [(q0, .inr (2, [.ref q1, .ref q2, .ref q3, .ref q4, .ref q5, .ref q6, .ref q7, .int (nI n), .int (nI h), .int (th), .int (tt)])), (q1, .inl (cI, 6, .inl (fk))), (q2, .inl (cI, 6, .inl (fs))), (q3, .inl (cI, 6, .inl (fn))), (q4, .inl (cZ, 6, .inl (fi))), (q5, .inl (cI, 8, .inl (fc))), (q6, .inl (cI, 8, .inl (fw))), (q7, .inl (cI, 8, .inl (ft)))])) (QRi (nI (kwF fn n))) 0 0 noF := by
  refine Met.ofW (cc := cX3_knowing) (maxL := 3) (ret := (some .int)) (by decide) rfl ?_
  intro p e s m args below meth co s₁ B hml hv
  obtain ⟨rfl, hP, hK⟩ := hv
  have hx := B.exec
  have hb := B.bytes
  have hr := B.returns
  have hts := atoms_spec (ws := wsX3_knowing) B.pre
  have hown : s.vm.findClass RX3 = some m.cls := findClass_of_methodNamed B.named
  have hlocks := B.notSynchronized
  have inX3 : ∀ w ∈ u_ws RX3 TX3 11, w ∈ wsX3_knowing := by decide +kernel
  have lf18 := hts (.fieldLink RX3 18 "ThursdayRungs$School" "known" "[I") (by decide +kernel)
  have lf34 := hts (.fieldLink RX3 34 "ThursdayRungs$School" "size" "I") (by decide +kernel)
  have hl := lv_entry ([.ref q0]) (n := 3) (Nat.le_of_ble_eq_true rfl)
  rw [lg_entry_eq]
  generalize (lg_sl ([.ref q0]) ++ List.replicate (3 - (lg_sl ([.ref q0])).length) Slot.unset).toArray = ls at hl ⊢
  have hl : lv_has ls 3 [(0, .ref q0)] := hl
  refine lv_iconst (v := nI 0) hx hb dX3_knowing_0 (by decide) ?_
  refine lv_istore_n (lv' := [(1, .int (nI 0)), (0, .ref q0)]) hx hb dX3_knowing_1 rfl hl (by decide) rfl (fun ls hl => ?_)
  refine lv_iconst (v := nI 0) hx hb dX3_knowing_2 (by decide) ?_
  refine lv_istore_n (lv' := [(2, .int (nI 0)), (1, .int (nI 0)), (0, .ref q0)]) hx hb dX3_knowing_3 rfl hl (by decide) rfl (fun ls hl => ?_)
  have lp4 : ∀ (w : Nat) (k : Nat), n - k < w → k ≤ n → ∀ (ls : Array Slot), lv_has ls 3 [(0, .ref q0), (1, .int (nI (kwF fn k))), (2, .int (nI k))] → W p l e (headSpec wsX3_knowing ({ frames := 0, cells := 0, slots := 0, locals := 0 })).room s m ([.ref q0] : List Value).toArray below meth co s.heap [] 0 0 (MQ below (QRi (nI (kwF fn n))) ([.ref q0] : List Value).toArray s 0 0 noF) (F0 m 4 ls []) := by
    intro w
    induction w with
    | zero => intro k h0; exact absurd h0 (Nat.not_lt_zero _)
    | succ w ih4 =>
      intro k hm_1 hk ls hl
      refine lv_iload_n hx hb dX3_knowing_4 rfl (lv_at hl 2 rfl) ?_
      refine lv_aload_n hx hb dX3_knowing_5 rfl (lv_at hl 0 rfl) ?_
      refine va_get (D := (dC, dI)) (ci := 2) (v := .int (nI n)) (C := RX3) (T := TX3) (N := 11) hx hb hts inX3 hown hK hP 0 rfl rfl 7 (by decide) lf34 (fun _ h9 => h9) rfl dX3_knowing_6 ?_
      refine w_ci_ge (tgt := 36) hx hb (by omega) (by omega) dX3_knowing_9 (by decide) (fun c_2 => ?_) (fun c_2 => ?_)
      · skip
        refine lv_iload_n hx hb dX3_knowing_36 rfl (lv_at hl 1 rfl) ?_
        exact retRi hx hb hr hlocks (by rw [show k = n by omega]) dX3_knowing_37
      · skip
        refine lv_iload_n hx hb dX3_knowing_12 rfl (lv_at hl 1 rfl) ?_
        refine lv_aload_n hx hb dX3_knowing_13 rfl (lv_at hl 0 rfl) ?_
        refine va_get (D := (dC, dI)) (ci := 2) (v := .ref q3) (C := RX3) (T := TX3) (N := 11) hx hb hts inX3 hown hK hP 0 rfl rfl 2 (by decide) lf18 (fun _ h9 => h9) rfl dX3_knowing_14 ?_
        refine lv_iload_n hx hb dX3_knowing_17 rfl (lv_at hl 2 rfl) ?_
        refine w_iald (k := k) hx hb hK hP 3 0 rfl rfl (by omega) (by decide) dX3_knowing_18 ?_
        refine lv_iconst (v := -1) hx hb dX3_knowing_19 (by decide) ?_
        refine lv_icmp_ne (tgt := 27) hx hb dX3_knowing_20 (by decide) (fun c_3 => ?_) (fun c_3 => ?_)
        · skip
          refine lv_iconst (v := nI 1) hx hb dX3_knowing_27 (by decide) ?_
          refine w_addN hx hb dX3_knowing_28 ?_
          refine lv_istore_n (lv' := [(1, .int (nI ((kwF fn k) + 1))), (0, .ref q0), (2, .int (nI k))]) hx hb dX3_knowing_29 rfl hl (by decide) rfl (fun ls hl => ?_)
          refine lv_iinc (v := nI (k + 1)) (lv' := [(2, .int (nI (k + 1))), (1, .int (nI ((kwF fn k) + 1))), (0, .ref q0)]) hx hb dX3_knowing_30 hl (k := 2) rfl w_inc1 (by decide) rfl (fun ls hl => ?_)
          refine lv_goto (tgt := 4) hx hb dX3_knowing_33 (by decide) ?_
          have he_4 : (nI ((kwF fn k) + 1) : Int32) = nI (kwF fn (k + 1)) := by simp [kwF, c_3]
          have hl := lv_cong hl (show ([(2, .int (nI (k + 1))), (1, .int (nI ((kwF fn k) + 1))), (0, .ref q0)] : List (Nat × Value)) = [(2, .int (nI ((k + 1)))), (1, .int (nI (kwF fn (k + 1)))), (0, .ref q0)] by rw [← he_4])
          exact ih4 (k + 1) (by omega) (by first | omega | with_reducible assumption | (first | with_reducible rfl | exact (if_pos (c_3)).symm | exact (if_neg (c_3)).symm | (simp [hn6, hk, c_2, c_3]; done) | omega | rfl)) ls (lv_sub hl [2, 1, 0] rfl)
        · skip
          refine lv_iconst (v := nI 0) hx hb dX3_knowing_23 (by decide) ?_
          refine lv_goto (tgt := 28) hx hb dX3_knowing_24 (by decide) ?_
          refine w_addN hx hb dX3_knowing_28 ?_
          refine lv_istore_n (lv' := [(1, .int (nI ((kwF fn k) + 0))), (0, .ref q0), (2, .int (nI k))]) hx hb dX3_knowing_29 rfl hl (by decide) rfl (fun ls hl => ?_)
          refine lv_iinc (v := nI (k + 1)) (lv' := [(2, .int (nI (k + 1))), (1, .int (nI ((kwF fn k) + 0))), (0, .ref q0)]) hx hb dX3_knowing_30 hl (k := 2) rfl w_inc1 (by decide) rfl (fun ls hl => ?_)
          refine lv_goto (tgt := 4) hx hb dX3_knowing_33 (by decide) ?_
          have he_5 : (nI ((kwF fn k) + 0) : Int32) = nI (kwF fn (k + 1)) := by simp [kwF, c_3]
          have hl := lv_cong hl (show ([(2, .int (nI (k + 1))), (1, .int (nI ((kwF fn k) + 0))), (0, .ref q0)] : List (Nat × Value)) = [(2, .int (nI ((k + 1)))), (1, .int (nI (kwF fn (k + 1)))), (0, .ref q0)] by rw [← he_5])
          exact ih4 (k + 1) (by omega) (by first | omega | with_reducible assumption | (first | with_reducible rfl | exact (if_pos (c_3)).symm | exact (if_neg (c_3)).symm | (simp [hn6, hk, c_2, c_3]; done) | omega | rfl)) ls (lv_sub hl [2, 1, 0] rfl)
  have he_6 : (nI 0 : Int32) = nI (kwF fn 0) := by first | with_reducible rfl | exact (if_pos (hn6)).symm | exact (if_neg (hn6)).symm | (simp [hn6]; done) | omega | rfl
  have hl := lv_cong hl (show ([(2, .int (nI 0)), (1, .int (nI 0)), (0, .ref q0)] : List (Nat × Value)) = [(2, .int (nI 0)), (1, .int (nI (kwF fn 0))), (0, .ref q0)] by rw [← he_6])
  exact lp4 (n - 0 + 1) (0) (Nat.lt_succ_self _) (by first | omega | with_reducible assumption | (first | with_reducible rfl | exact (if_pos (hn6)).symm | exact (if_neg (hn6)).symm | (simp [hn6]; done) | omega | rfl)) ls (lv_sub hl [2, 1, 0] rfl)
set_option maxHeartbeats 4000000 in
set_option maxRecDepth 100000 in
theorem k_X3_illOnes (l : Launch) (dC : Nat → ClassId) (dI : Nat → Nat → Nat) (cI cZ : ClassId) (q0 q1 q2 q3 q4 q5 q6 q7 : Nat) (fk fs fn fi fc fw ft : Nat → Int32) (n h : Nat) (th tt : Int32) (hn6 : n ≤ 6) : Met l yX3_illOnes wsX3_illOnes ({ frames := 0, cells := 0, slots := 0, locals := 0 }) (va_Pc [.ref q0] (PR (dC, dI) cI cZ [(q0, .inr (2, [.ref q1, .ref q2, .ref q3, .ref q4, .ref q5, .ref q6, .ref q7, .int (nI n), .int (nI h), .int (th), .int (tt)])), (q1, .inl (cI, 6, .inl (fk))), (q2, .inl (cI, 6, .inl (fs))), (q3, .inl (cI, 6, .inl (fn))), (q4, .inl (cZ, 6, .inl (fi))), (q5, .inl (cI, 8, .inl (fc))), (q6, .inl (cI, 8, .inl (fw))), (q7, .inl (cI, 8, .inl (ft)))])) (QRi (nI (ioF fi n))) 0 0 noF := by
  refine Met.ofW (cc := cX3_illOnes) (maxL := 3) (ret := (some .int)) (by decide) rfl ?_
  intro p e s m args below meth co s₁ B hml hv
  obtain ⟨rfl, hP, hK⟩ := hv
  have hx := B.exec
  have hb := B.bytes
  have hr := B.returns
  have hts := atoms_spec (ws := wsX3_illOnes) B.pre
  have hown : s.vm.findClass RX3 = some m.cls := findClass_of_methodNamed B.named
  have hlocks := B.notSynchronized
  have inX3 : ∀ w ∈ u_ws RX3 TX3 11, w ∈ wsX3_illOnes := by decide +kernel
  have lf21 := hts (.fieldLink RX3 21 "ThursdayRungs$School" "ill" "[Z") (by decide +kernel)
  have lf34 := hts (.fieldLink RX3 34 "ThursdayRungs$School" "size" "I") (by decide +kernel)
  have hl := lv_entry ([.ref q0]) (n := 3) (Nat.le_of_ble_eq_true rfl)
  rw [lg_entry_eq]
  generalize (lg_sl ([.ref q0]) ++ List.replicate (3 - (lg_sl ([.ref q0])).length) Slot.unset).toArray = ls at hl ⊢
  have hl : lv_has ls 3 [(0, .ref q0)] := hl
  refine lv_iconst (v := nI 0) hx hb dX3_illOnes_0 (by decide) ?_
  refine lv_istore_n (lv' := [(1, .int (nI 0)), (0, .ref q0)]) hx hb dX3_illOnes_1 rfl hl (by decide) rfl (fun ls hl => ?_)
  refine lv_iconst (v := nI 0) hx hb dX3_illOnes_2 (by decide) ?_
  refine lv_istore_n (lv' := [(2, .int (nI 0)), (1, .int (nI 0)), (0, .ref q0)]) hx hb dX3_illOnes_3 rfl hl (by decide) rfl (fun ls hl => ?_)
  have lp4 : ∀ (w : Nat) (k : Nat), n - k < w → k ≤ n → ∀ (ls : Array Slot), lv_has ls 3 [(0, .ref q0), (1, .int (nI (ioF fi k))), (2, .int (nI k))] → W p l e (headSpec wsX3_illOnes ({ frames := 0, cells := 0, slots := 0, locals := 0 })).room s m ([.ref q0] : List Value).toArray below meth co s.heap [] 0 0 (MQ below (QRi (nI (ioF fi n))) ([.ref q0] : List Value).toArray s 0 0 noF) (F0 m 4 ls []) := by
    intro w
    induction w with
    | zero => intro k h0; exact absurd h0 (Nat.not_lt_zero _)
    | succ w ih4 =>
      intro k hm_1 hk ls hl
      refine lv_iload_n hx hb dX3_illOnes_4 rfl (lv_at hl 2 rfl) ?_
      refine lv_aload_n hx hb dX3_illOnes_5 rfl (lv_at hl 0 rfl) ?_
      refine va_get (D := (dC, dI)) (ci := 2) (v := .int (nI n)) (C := RX3) (T := TX3) (N := 11) hx hb hts inX3 hown hK hP 0 rfl rfl 7 (by decide) lf34 (fun _ h9 => h9) rfl dX3_illOnes_6 ?_
      refine w_ci_ge (tgt := 35) hx hb (by omega) (by omega) dX3_illOnes_9 (by decide) (fun c_2 => ?_) (fun c_2 => ?_)
      · skip
        refine lv_iload_n hx hb dX3_illOnes_35 rfl (lv_at hl 1 rfl) ?_
        exact retRi hx hb hr hlocks (by rw [show k = n by omega]) dX3_illOnes_36
      · skip
        refine lv_iload_n hx hb dX3_illOnes_12 rfl (lv_at hl 1 rfl) ?_
        refine lv_aload_n hx hb dX3_illOnes_13 rfl (lv_at hl 0 rfl) ?_
        refine va_get (D := (dC, dI)) (ci := 2) (v := .ref q4) (C := RX3) (T := TX3) (N := 11) hx hb hts inX3 hown hK hP 0 rfl rfl 3 (by decide) lf21 (fun _ h9 => h9) rfl dX3_illOnes_14 ?_
        refine lv_iload_n hx hb dX3_illOnes_17 rfl (lv_at hl 2 rfl) ?_
        refine w_zald (k := k) hx hb hK hP 4 1 rfl rfl (by omega) (by decide) dX3_illOnes_18 ?_
        refine lv_if_eq (tgt := 26) hx hb dX3_illOnes_19 (by decide) (fun c_3 => ?_) (fun c_3 => ?_)
        · skip
          refine lv_iconst (v := nI 0) hx hb dX3_illOnes_26 (by decide) ?_
          refine w_addN hx hb dX3_illOnes_27 ?_
          refine lv_istore_n (lv' := [(1, .int (nI ((ioF fi k) + 0))), (0, .ref q0), (2, .int (nI k))]) hx hb dX3_illOnes_28 rfl hl (by decide) rfl (fun ls hl => ?_)
          refine lv_iinc (v := nI (k + 1)) (lv' := [(2, .int (nI (k + 1))), (1, .int (nI ((ioF fi k) + 0))), (0, .ref q0)]) hx hb dX3_illOnes_29 hl (k := 2) rfl w_inc1 (by decide) rfl (fun ls hl => ?_)
          refine lv_goto (tgt := 4) hx hb dX3_illOnes_32 (by decide) ?_
          have he_4 : (nI ((ioF fi k) + 0) : Int32) = nI (ioF fi (k + 1)) := by simp [ioF, nI_0, c_3]
          have hl := lv_cong hl (show ([(2, .int (nI (k + 1))), (1, .int (nI ((ioF fi k) + 0))), (0, .ref q0)] : List (Nat × Value)) = [(2, .int (nI ((k + 1)))), (1, .int (nI (ioF fi (k + 1)))), (0, .ref q0)] by rw [← he_4])
          exact ih4 (k + 1) (by omega) (by first | omega | with_reducible assumption | (first | with_reducible rfl | exact (if_pos (c_3)).symm | exact (if_neg (c_3)).symm | (simp [hn6, hk, c_2, c_3]; done) | omega | rfl)) ls (lv_sub hl [2, 1, 0] rfl)
        · skip
          refine lv_iconst (v := nI 1) hx hb dX3_illOnes_22 (by decide) ?_
          refine lv_goto (tgt := 27) hx hb dX3_illOnes_23 (by decide) ?_
          refine w_addN hx hb dX3_illOnes_27 ?_
          refine lv_istore_n (lv' := [(1, .int (nI ((ioF fi k) + 1))), (0, .ref q0), (2, .int (nI k))]) hx hb dX3_illOnes_28 rfl hl (by decide) rfl (fun ls hl => ?_)
          refine lv_iinc (v := nI (k + 1)) (lv' := [(2, .int (nI (k + 1))), (1, .int (nI ((ioF fi k) + 1))), (0, .ref q0)]) hx hb dX3_illOnes_29 hl (k := 2) rfl w_inc1 (by decide) rfl (fun ls hl => ?_)
          refine lv_goto (tgt := 4) hx hb dX3_illOnes_32 (by decide) ?_
          have he_5 : (nI ((ioF fi k) + 1) : Int32) = nI (ioF fi (k + 1)) := by simp [ioF, nI_0, c_3]
          have hl := lv_cong hl (show ([(2, .int (nI (k + 1))), (1, .int (nI ((ioF fi k) + 1))), (0, .ref q0)] : List (Nat × Value)) = [(2, .int (nI ((k + 1)))), (1, .int (nI (ioF fi (k + 1)))), (0, .ref q0)] by rw [← he_5])
          exact ih4 (k + 1) (by omega) (by first | omega | with_reducible assumption | (first | with_reducible rfl | exact (if_pos (c_3)).symm | exact (if_neg (c_3)).symm | (simp [hn6, hk, c_2, c_3]; done) | omega | rfl)) ls (lv_sub hl [2, 1, 0] rfl)
  have he_6 : (nI 0 : Int32) = nI (ioF fi 0) := by first | with_reducible rfl | exact (if_pos (hn6)).symm | exact (if_neg (hn6)).symm | (simp [hn6]; done) | omega | rfl
  have hl := lv_cong hl (show ([(2, .int (nI 0)), (1, .int (nI 0)), (0, .ref q0)] : List (Nat × Value)) = [(2, .int (nI 0)), (1, .int (nI (ioF fi 0))), (0, .ref q0)] by rw [← he_6])
  exact lp4 (n - 0 + 1) (0) (Nat.lt_succ_self _) (by first | omega | with_reducible assumption | (first | with_reducible rfl | exact (if_pos (hn6)).symm | exact (if_neg (hn6)).symm | (simp [hn6]; done) | omega | rfl)) ls (lv_sub hl [2, 1, 0] rfl)
end
section
set_option maxHeartbeats 4000000 in
set_option maxRecDepth 100000 in
theorem k_X0_next (l : Launch) (dC : Nat → ClassId) (dI : Nat → Nat → Nat) (cI cZ : ClassId) (w0 : Nat) (sz : Nat) (sx : Nat) (o : Nat) (hsx : sx < 2147483648) (ho1 : 1 ≤ o) (ho : o < 2147483648) : Met l yX0_next wsX0_next ({ frames := 0, cells := 0, slots := 0, locals := 0 }) (va_Pc [.ref w0, .int (nI o)] (PW (dC, dI) cI cZ sz [(w0, .inr (0, [.long (lN sx)]))])) (QWi (dC, dI) (nI (nx sx / 65536 % o)) [(w0, .inr (0, [.long (lN sx)]))] [(w0, .inr (0, [.long (lN ((nx sx)))]))] sz) 0 0 (va_A [(w0, .inr (0, [.long (lN sx)]))] sz) := by
  refine Met.ofW (cc := cX0_next) (maxL := 2) (ret := (some .int)) (by decide) rfl ?_
  intro p e s m args below meth co s₁ B hml hv
  obtain ⟨rfl, hsz, hP, hK, hD0⟩ := hv
  have hx := B.exec
  have hb := B.bytes
  have hr := B.returns
  have hts := atoms_spec (ws := wsX0_next) B.pre
  have hown : s.vm.findClass RX0 = some m.cls := findClass_of_methodNamed B.named
  have hlocks := B.notSynchronized
  subst hsz
  have hD := hD0.self (sz := s.heap.size)
  generalize hAe : va_A [(w0, .inr (0, [.long (lN sx)]))] s.heap.size = A at hD
  have hA : ∀ q : Nat, s.heap.size ≤ q → A q := fun q h => by rw [← hAe]; exact Or.inr h
  have hS : va_S A s.heap s.heap [] := va_S.rf
  have inX0 : ∀ w ∈ u_ws RX0 TX0 1, w ∈ wsX0_next := by decide +kernel
  have lc13 := hts (.constantLong RX0 13 (1103515245)) (by decide +kernel)
  have lc15 := hts (.constantLong RX0 15 (12345)) (by decide +kernel)
  have lc17 := hts (.constantLong RX0 17 (2147483648)) (by decide +kernel)
  have lc19 := hts (.constantLong RX0 19 (65536)) (by decide +kernel)
  have lf7 := hts (.fieldLink RX0 7 "ThursdayRungs$Draws" "seed" "J") (by decide +kernel)
  have hl := lv_entry ([.ref w0, .int (nI o)]) (n := 2) (Nat.le_of_ble_eq_true rfl)
  rw [lg_entry_eq]
  generalize (lg_sl ([.ref w0, .int (nI o)]) ++ List.replicate (2 - (lg_sl ([.ref w0, .int (nI o)])).length) Slot.unset).toArray = ls at hl ⊢
  have hl : lv_has ls 2 [(0, .ref w0), (1, .int (nI o))] := hl
  have hP : va_P (dC, dI) vwCl [(w0, .inr (0, [.long (lN sx)]))] s.heap := hP
  refine lv_aload_n hx hb dX0_next_0 rfl (lv_at hl 0 rfl) ?_
  refine lv_ldc2 (v := 1103515245) hx hb hown lc13 dX0_next_1 ?_
  refine lv_aload_n hx hb dX0_next_4 rfl (lv_at hl 0 rfl) ?_
  refine va_get (D := (dC, dI)) (ci := 0) (v := .long (lN sx)) (C := RX0) (T := TX0) (N := 1) hx hb hts inX0 hown hK hP 0 rfl rfl 0 (by decide) lf7 (fun _ h9 => h9) rfl dX0_next_5 ?_
  refine lv_lmul hx hb dX0_next_8 ?_
  refine lv_ldc2 (v := 12345) hx hb hown lc15 dX0_next_9 ?_
  refine lv_ladd hx hb dX0_next_12 ?_
  refine lv_ldc2 (v := 2147483648) hx hb hown lc17 dX0_next_13 ?_
  refine lv_lrem hx hb dX0_next_16 (by decide) ?_
  rw [show (((((1103515245 : Int64)) * (lN sx)) + ((12345 : Int64))) - ((((1103515245 : Int64)) * (lN sx)) + ((12345 : Int64))) / ((2147483648 : Int64)) * ((2147483648 : Int64)) : Int64) = lN (nx sx) from nx_eq hsx]
  refine va_put (D := (dC, dI)) (ci := 0) (v := .long (lN (nx sx))) (ty := .long) (C := RX0) (T := TX0) (N := 1) hx hb hts inX0 tyX0 tyX0_ok nmX0 hown hK hP hD hS 0 rfl rfl 0 (by decide) lf7 (fun _ h9 => h9) rfl (by decide +kernel) rfl rfl (Nat.le_of_ble_eq_true rfl) dX0_next_17 (fun H locs hP hD hS => ?_)
  have hP : va_P (dC, dI) vwCl [(w0, .inr (0, [.long (lN (nx sx))]))] H := hP
  have hD : va_D A [(w0, .inr (0, [.long (lN (nx sx))]))] := hD
  refine lv_iload_n hx hb dX0_next_20 rfl (lv_at hl 1 rfl) ?_
  refine lv_iconst (v := nI 1) hx hb dX0_next_21 (by decide) ?_
  refine w_ci_ge (tgt := 29) hx hb (by omega) (by omega) dX0_next_22 (by decide) (fun c_1 => ?_) (fun c_1 => ?_)
  · skip
    refine lv_aload_n hx hb dX0_next_29 rfl (lv_at hl 0 rfl) ?_
    refine va_get (D := (dC, dI)) (ci := 0) (v := .long (lN (nx sx))) (C := RX0) (T := TX0) (N := 1) hx hb hts inX0 hown hK hP 0 rfl rfl 0 (by decide) lf7 (fun _ h9 => h9) rfl dX0_next_30 ?_
    refine lv_ldc2 (v := 65536) hx hb hown lc19 dX0_next_33 ?_
    refine lv_ldiv hx hb dX0_next_36 (by decide) ?_
    refine lv_iload_n hx hb dX0_next_37 rfl (lv_at hl 1 rfl) ?_
    refine lv_i2l (v := lN (o)) hx hb dX0_next_38 (nI_l (by omega)) ?_
    refine lv_lrem hx hb dX0_next_39 (lN_ne0 ho1 ho) ?_
    refine lv_l2i (v := Int64.toInt32 (((lN (nx sx)) / ((65536 : Int64))) - ((lN (nx sx)) / ((65536 : Int64))) / (lN o) * (lN o))) hx hb dX0_next_40 rfl ?_
    rw [show (Int64.toInt32 (((lN (nx sx)) / ((65536 : Int64))) - ((lN (nx sx)) / ((65536 : Int64))) / (lN o) * (lN o)) : Int32) = nI (nx sx / 65536 % o) from nx_draw hsx ho1 ho]
    have hP7 := hP.sub (ws' := [(w0, .inr (0, [.long (lN (nx sx))]))]) [0] rfl
    have hD7 := hD.sub (ws' := [(w0, .inr (0, [.long (lN (nx sx))]))]) [0] (by decide) rfl
    exact retWi hx hb hr hlocks rfl hP7 hD7 hS hAe dX0_next_41
  · skip
    omega
set_option maxHeartbeats 4000000 in
set_option maxRecDepth 100000 in
theorem k_X3_addHeard (l : Launch) (dC : Nat → ClassId) (dI : Nat → Nat → Nat) (cI cZ : ClassId) (q0 q1 q2 q3 q4 q5 q6 q7 : Nat) (sz : Nat) (fk fs fn fi fc fw ft : Nat → Int32) (n h : Nat) (th tt : Int32) (c : Int32) (kw : Int32) (tg : Int32) (hh8 : h < 8) : Met l yX3_addHeard wsX3_addHeard ({ frames := 1, cells := 0, slots := 0, locals := 20 }) (va_Pc [.ref q0, .int (c), .int (kw), .int (tg)] (PW (dC, dI) cI cZ sz [(q0, .inr (2, [.ref q1, .ref q2, .ref q3, .ref q4, .ref q5, .ref q6, .ref q7, .int (nI n), .int (nI h), .int (th), .int (tt)])), (q1, .inl (cI, 6, .inl (fk))), (q2, .inl (cI, 6, .inl (fs))), (q3, .inl (cI, 6, .inl (fn))), (q4, .inl (cZ, 6, .inl (fi))), (q5, .inl (cI, 8, .inl (fc))), (q6, .inl (cI, 8, .inl (fw))), (q7, .inl (cI, 8, .inl (ft)))])) (QWv (dC, dI) [(q0, .inr (2, [.ref q1, .ref q2, .ref q3, .ref q4, .ref q5, .ref q6, .ref q7, .int (nI n), .int (nI h), .int (th), .int (tt)])), (q1, .inl (cI, 6, .inl (fk))), (q2, .inl (cI, 6, .inl (fs))), (q3, .inl (cI, 6, .inl (fn))), (q4, .inl (cZ, 6, .inl (fi))), (q5, .inl (cI, 8, .inl (fc))), (q6, .inl (cI, 8, .inl (fw))), (q7, .inl (cI, 8, .inl (ft)))] [(q0, .inr (2, [.ref q1, .ref q2, .ref q3, .ref q4, .ref q5, .ref q6, .ref q7, .int (nI n), .int (nI ((h + 1))), .int (th), .int (tt)])), (q1, .inl (cI, 6, .inl (fk))), (q2, .inl (cI, 6, .inl (fs))), (q3, .inl (cI, 6, .inl (fn))), (q4, .inl (cZ, 6, .inl (fi))), (q5, .inl (cI, 8, .inl ((upd fc h c)))), (q6, .inl (cI, 8, .inl ((upd fw h kw)))), (q7, .inl (cI, 8, .inl ((upd ft h tg))))] sz) 0 0 (va_A [(q0, .inr (2, [.ref q1, .ref q2, .ref q3, .ref q4, .ref q5, .ref q6, .ref q7, .int (nI n), .int (nI h), .int (th), .int (tt)])), (q1, .inl (cI, 6, .inl (fk))), (q2, .inl (cI, 6, .inl (fs))), (q3, .inl (cI, 6, .inl (fn))), (q4, .inl (cZ, 6, .inl (fi))), (q5, .inl (cI, 8, .inl (fc))), (q6, .inl (cI, 8, .inl (fw))), (q7, .inl (cI, 8, .inl (ft)))] sz) := by
  refine Met.ofW (cc := cX3_addHeard) (maxL := 4) (ret := none) (by decide) rfl ?_
  intro p e s m args below meth co s₁ B hml hv
  obtain ⟨rfl, hsz, hP, hK, hD0⟩ := hv
  have hx := B.exec
  have hb := B.bytes
  have hr := B.returns
  have hts := atoms_spec (ws := wsX3_addHeard) B.pre
  have hown : s.vm.findClass RX3 = some m.cls := findClass_of_methodNamed B.named
  have hlocks := B.notSynchronized
  subst hsz
  have hD := hD0.self (sz := s.heap.size)
  generalize hAe : va_A [(q0, .inr (2, [.ref q1, .ref q2, .ref q3, .ref q4, .ref q5, .ref q6, .ref q7, .int (nI n), .int (nI h), .int (th), .int (tt)])), (q1, .inl (cI, 6, .inl (fk))), (q2, .inl (cI, 6, .inl (fs))), (q3, .inl (cI, 6, .inl (fn))), (q4, .inl (cZ, 6, .inl (fi))), (q5, .inl (cI, 8, .inl (fc))), (q6, .inl (cI, 8, .inl (fw))), (q7, .inl (cI, 8, .inl (ft)))] s.heap.size = A at hD
  have hA : ∀ q : Nat, s.heap.size ≤ q → A q := fun q h => by rw [← hAe]; exact Or.inr h
  have hS : va_S A s.heap s.heap [] := va_S.rf
  have inX3 : ∀ w ∈ u_ws RX3 TX3 11, w ∈ wsX3_addHeard := by decide +kernel
  have lf25 := hts (.fieldLink RX3 25 "ThursdayRungs$School" "heardChild" "[I") (by decide +kernel)
  have lf28 := hts (.fieldLink RX3 28 "ThursdayRungs$School" "heardKnew" "[I") (by decide +kernel)
  have lf31 := hts (.fieldLink RX3 31 "ThursdayRungs$School" "heardTaught" "[I") (by decide +kernel)
  have lf38 := hts (.fieldLink RX3 38 "ThursdayRungs$School" "heard" "I") (by decide +kernel)
  have hl := lv_entry ([.ref q0, .int (c), .int (kw), .int (tg)]) (n := 4) (Nat.le_of_ble_eq_true rfl)
  rw [lg_entry_eq]
  generalize (lg_sl ([.ref q0, .int (c), .int (kw), .int (tg)]) ++ List.replicate (4 - (lg_sl ([.ref q0, .int (c), .int (kw), .int (tg)])).length) Slot.unset).toArray = ls at hl ⊢
  have hl : lv_has ls 4 [(0, .ref q0), (1, .int (c)), (2, .int (kw)), (3, .int (tg))] := hl
  have hP : va_P (dC, dI) vwCl [(q0, .inr (2, [.ref q1, .ref q2, .ref q3, .ref q4, .ref q5, .ref q6, .ref q7, .int (nI n), .int (nI h), .int (th), .int (tt)])), (q1, .inl (cI, 6, .inl (fk))), (q2, .inl (cI, 6, .inl (fs))), (q3, .inl (cI, 6, .inl (fn))), (q4, .inl (cZ, 6, .inl (fi))), (q5, .inl (cI, 8, .inl (fc))), (q6, .inl (cI, 8, .inl (fw))), (q7, .inl (cI, 8, .inl (ft)))] s.heap := hP
  refine lv_aload_n hx hb dX3_addHeard_0 rfl (lv_at hl 0 rfl) ?_
  have hPc := hP.sub (ws' := [(q0, .inr (2, [.ref q1, .ref q2, .ref q3, .ref q4, .ref q5, .ref q6, .ref q7, .int (nI n), .int (nI h), .int (th), .int (tt)])), (q1, .inl (cI, 6, .inl (fk))), (q2, .inl (cI, 6, .inl (fs))), (q3, .inl (cI, 6, .inl (fn))), (q4, .inl (cZ, 6, .inl (fi))), (q5, .inl (cI, 8, .inl (fc))), (q6, .inl (cI, 8, .inl (fw))), (q7, .inl (cI, 8, .inl (ft)))]) [0, 1, 2, 3, 4, 5, 6, 7] rfl
  refine callRi (v := (if (8 ≤ h) then nI 1 else nI 0)) (W.runV (As := []) (rest := []) ⟨hx, hb, hml, hown, hts⟩ (k_X3_isHeardFull l dC dI cI cZ q0 q1 q2 q3 q4 q5 q6 q7 (fk) (fs) (fn) (fi) (fc) (fw) (ft) (n) (h) (th) (tt) (by first | omega | with_reducible assumption | (simp; omega))) (cwV 0 hts gX3_addHeard_X3_isHeardFull rfl rfl rfl (by decide +kernel) ⟨Nat.le_of_ble_eq_true rfl, Nat.le_of_ble_eq_true rfl⟩) (preRV (q := (RX3, TX3, 11)) (ci := 2) hK hPc rfl rfl) rfl rfl hl.1 rfl (lv_room (Nat.le_of_ble_eq_true rfl)) dX3_addHeard_1 ⟨Nat.zero_le _, Nat.zero_le _⟩) ?_
  refine w_ifneB (tgt := 47) hx hb dX3_addHeard_4 (by decide) (fun c_1 => ?_) (fun c_1 => ?_)
  · skip
    omega
  · skip
    refine lv_aload_n hx hb dX3_addHeard_7 rfl (lv_at hl 0 rfl) ?_
    refine va_get (D := (dC, dI)) (ci := 2) (v := .ref q5) (C := RX3) (T := TX3) (N := 11) hx hb hts inX3 hown hK hP 0 rfl rfl 4 (by decide) lf25 (fun _ h9 => h9) rfl dX3_addHeard_8 ?_
    refine lv_aload_n hx hb dX3_addHeard_11 rfl (lv_at hl 0 rfl) ?_
    refine va_get (D := (dC, dI)) (ci := 2) (v := .int (nI h)) (C := RX3) (T := TX3) (N := 11) hx hb hts inX3 hown hK hP 0 rfl rfl 8 (by decide) lf38 (fun _ h9 => h9) rfl dX3_addHeard_12 ?_
    refine lv_iload_n hx hb dX3_addHeard_15 rfl (lv_at hl 1 rfl) ?_
    refine w_iast (k := h) hx hb hK hP hD hS 5 0 rfl rfl (by omega) (by decide) dX3_addHeard_16 (fun H locs hP hD hS => ?_)
    have hP : va_P (dC, dI) vwCl [(q0, .inr (2, [.ref q1, .ref q2, .ref q3, .ref q4, .ref q5, .ref q6, .ref q7, .int (nI n), .int (nI h), .int (th), .int (tt)])), (q1, .inl (cI, 6, .inl (fk))), (q2, .inl (cI, 6, .inl (fs))), (q3, .inl (cI, 6, .inl (fn))), (q4, .inl (cZ, 6, .inl (fi))), (q5, .inl (cI, 8, .inl (upd fc h (c)))), (q6, .inl (cI, 8, .inl (fw))), (q7, .inl (cI, 8, .inl (ft)))] H := hP
    have hD : va_D A [(q0, .inr (2, [.ref q1, .ref q2, .ref q3, .ref q4, .ref q5, .ref q6, .ref q7, .int (nI n), .int (nI h), .int (th), .int (tt)])), (q1, .inl (cI, 6, .inl (fk))), (q2, .inl (cI, 6, .inl (fs))), (q3, .inl (cI, 6, .inl (fn))), (q4, .inl (cZ, 6, .inl (fi))), (q5, .inl (cI, 8, .inl (upd fc h (c)))), (q6, .inl (cI, 8, .inl (fw))), (q7, .inl (cI, 8, .inl (ft)))] := hD
    refine lv_aload_n hx hb dX3_addHeard_17 rfl (lv_at hl 0 rfl) ?_
    refine va_get (D := (dC, dI)) (ci := 2) (v := .ref q6) (C := RX3) (T := TX3) (N := 11) hx hb hts inX3 hown hK hP 0 rfl rfl 5 (by decide) lf28 (fun _ h9 => h9) rfl dX3_addHeard_18 ?_
    refine lv_aload_n hx hb dX3_addHeard_21 rfl (lv_at hl 0 rfl) ?_
    refine va_get (D := (dC, dI)) (ci := 2) (v := .int (nI h)) (C := RX3) (T := TX3) (N := 11) hx hb hts inX3 hown hK hP 0 rfl rfl 8 (by decide) lf38 (fun _ h9 => h9) rfl dX3_addHeard_22 ?_
    refine lv_iload_n hx hb dX3_addHeard_25 rfl (lv_at hl 2 rfl) ?_
    refine w_iast (k := h) hx hb hK hP hD hS 6 0 rfl rfl (by omega) (by decide) dX3_addHeard_26 (fun H locs hP hD hS => ?_)
    have hP : va_P (dC, dI) vwCl [(q0, .inr (2, [.ref q1, .ref q2, .ref q3, .ref q4, .ref q5, .ref q6, .ref q7, .int (nI n), .int (nI h), .int (th), .int (tt)])), (q1, .inl (cI, 6, .inl (fk))), (q2, .inl (cI, 6, .inl (fs))), (q3, .inl (cI, 6, .inl (fn))), (q4, .inl (cZ, 6, .inl (fi))), (q5, .inl (cI, 8, .inl (upd fc h (c)))), (q6, .inl (cI, 8, .inl (upd fw h (kw)))), (q7, .inl (cI, 8, .inl (ft)))] H := hP
    have hD : va_D A [(q0, .inr (2, [.ref q1, .ref q2, .ref q3, .ref q4, .ref q5, .ref q6, .ref q7, .int (nI n), .int (nI h), .int (th), .int (tt)])), (q1, .inl (cI, 6, .inl (fk))), (q2, .inl (cI, 6, .inl (fs))), (q3, .inl (cI, 6, .inl (fn))), (q4, .inl (cZ, 6, .inl (fi))), (q5, .inl (cI, 8, .inl (upd fc h (c)))), (q6, .inl (cI, 8, .inl (upd fw h (kw)))), (q7, .inl (cI, 8, .inl (ft)))] := hD
    refine lv_aload_n hx hb dX3_addHeard_27 rfl (lv_at hl 0 rfl) ?_
    refine va_get (D := (dC, dI)) (ci := 2) (v := .ref q7) (C := RX3) (T := TX3) (N := 11) hx hb hts inX3 hown hK hP 0 rfl rfl 6 (by decide) lf31 (fun _ h9 => h9) rfl dX3_addHeard_28 ?_
    refine lv_aload_n hx hb dX3_addHeard_31 rfl (lv_at hl 0 rfl) ?_
    refine va_get (D := (dC, dI)) (ci := 2) (v := .int (nI h)) (C := RX3) (T := TX3) (N := 11) hx hb hts inX3 hown hK hP 0 rfl rfl 8 (by decide) lf38 (fun _ h9 => h9) rfl dX3_addHeard_32 ?_
    refine lv_iload_n hx hb dX3_addHeard_35 rfl (lv_at hl 3 rfl) ?_
    refine w_iast (k := h) hx hb hK hP hD hS 7 0 rfl rfl (by omega) (by decide) dX3_addHeard_36 (fun H locs hP hD hS => ?_)
    have hP : va_P (dC, dI) vwCl [(q0, .inr (2, [.ref q1, .ref q2, .ref q3, .ref q4, .ref q5, .ref q6, .ref q7, .int (nI n), .int (nI h), .int (th), .int (tt)])), (q1, .inl (cI, 6, .inl (fk))), (q2, .inl (cI, 6, .inl (fs))), (q3, .inl (cI, 6, .inl (fn))), (q4, .inl (cZ, 6, .inl (fi))), (q5, .inl (cI, 8, .inl (upd fc h (c)))), (q6, .inl (cI, 8, .inl (upd fw h (kw)))), (q7, .inl (cI, 8, .inl (upd ft h (tg))))] H := hP
    have hD : va_D A [(q0, .inr (2, [.ref q1, .ref q2, .ref q3, .ref q4, .ref q5, .ref q6, .ref q7, .int (nI n), .int (nI h), .int (th), .int (tt)])), (q1, .inl (cI, 6, .inl (fk))), (q2, .inl (cI, 6, .inl (fs))), (q3, .inl (cI, 6, .inl (fn))), (q4, .inl (cZ, 6, .inl (fi))), (q5, .inl (cI, 8, .inl (upd fc h (c)))), (q6, .inl (cI, 8, .inl (upd fw h (kw)))), (q7, .inl (cI, 8, .inl (upd ft h (tg))))] := hD
    refine lv_aload_n hx hb dX3_addHeard_37 rfl (lv_at hl 0 rfl) ?_
    refine lv_dup hx hb dX3_addHeard_38 rfl ?_
    refine va_get (D := (dC, dI)) (ci := 2) (v := .int (nI h)) (C := RX3) (T := TX3) (N := 11) hx hb hts inX3 hown hK hP 0 rfl rfl 8 (by decide) lf38 (fun _ h9 => h9) rfl dX3_addHeard_39 ?_
    refine lv_iconst (v := nI 1) hx hb dX3_addHeard_42 (by decide) ?_
    refine w_addN hx hb dX3_addHeard_43 ?_
    refine va_put (D := (dC, dI)) (ci := 2) (v := .int (nI (h + 1))) (ty := .int) (C := RX3) (T := TX3) (N := 11) hx hb hts inX3 tyX3 tyX3_ok nmX3 hown hK hP hD hS 0 rfl rfl 8 (by decide) lf38 (fun _ h9 => h9) rfl (by decide +kernel) rfl rfl (Nat.le_of_ble_eq_true rfl) dX3_addHeard_44 (fun H locs hP hD hS => ?_)
    have hP : va_P (dC, dI) vwCl [(q0, .inr (2, [.ref q1, .ref q2, .ref q3, .ref q4, .ref q5, .ref q6, .ref q7, .int (nI n), .int (nI (h + 1)), .int (th), .int (tt)])), (q1, .inl (cI, 6, .inl (fk))), (q2, .inl (cI, 6, .inl (fs))), (q3, .inl (cI, 6, .inl (fn))), (q4, .inl (cZ, 6, .inl (fi))), (q5, .inl (cI, 8, .inl (upd fc h (c)))), (q6, .inl (cI, 8, .inl (upd fw h (kw)))), (q7, .inl (cI, 8, .inl (upd ft h (tg))))] H := hP
    have hD : va_D A [(q0, .inr (2, [.ref q1, .ref q2, .ref q3, .ref q4, .ref q5, .ref q6, .ref q7, .int (nI n), .int (nI (h + 1)), .int (th), .int (tt)])), (q1, .inl (cI, 6, .inl (fk))), (q2, .inl (cI, 6, .inl (fs))), (q3, .inl (cI, 6, .inl (fn))), (q4, .inl (cZ, 6, .inl (fi))), (q5, .inl (cI, 8, .inl (upd fc h (c)))), (q6, .inl (cI, 8, .inl (upd fw h (kw)))), (q7, .inl (cI, 8, .inl (upd ft h (tg))))] := hD
    have hP7 := hP.sub (ws' := [(q0, .inr (2, [.ref q1, .ref q2, .ref q3, .ref q4, .ref q5, .ref q6, .ref q7, .int (nI n), .int (nI (h + 1)), .int (th), .int (tt)])), (q1, .inl (cI, 6, .inl (fk))), (q2, .inl (cI, 6, .inl (fs))), (q3, .inl (cI, 6, .inl (fn))), (q4, .inl (cZ, 6, .inl (fi))), (q5, .inl (cI, 8, .inl (upd fc h (c)))), (q6, .inl (cI, 8, .inl (upd fw h (kw)))), (q7, .inl (cI, 8, .inl (upd ft h (tg))))]) [0, 1, 2, 3, 4, 5, 6, 7] rfl
    have hD7 := hD.sub (ws' := [(q0, .inr (2, [.ref q1, .ref q2, .ref q3, .ref q4, .ref q5, .ref q6, .ref q7, .int (nI n), .int (nI (h + 1)), .int (th), .int (tt)])), (q1, .inl (cI, 6, .inl (fk))), (q2, .inl (cI, 6, .inl (fs))), (q3, .inl (cI, 6, .inl (fn))), (q4, .inl (cZ, 6, .inl (fi))), (q5, .inl (cI, 8, .inl (upd fc h (c)))), (q6, .inl (cI, 8, .inl (upd fw h (kw)))), (q7, .inl (cI, 8, .inl (upd ft h (tg))))]) [0, 1, 2, 3, 4, 5, 6, 7] (by decide) rfl
    exact retWv hx hb hr hlocks hP7 hD7 hS hAe dX3_addHeard_47
end
section
set_option maxHeartbeats 4000000 in
set_option maxRecDepth 100000 in
theorem k_X3_holdThursday (l : Launch) (dC : Nat → ClassId) (dI : Nat → Nat → Nat) (cI cZ : ClassId) (q0 q1 q2 q3 q4 q5 q6 q7 : Nat) (sz : Nat) (fk fs fn fi fc fw ft : Nat → Int32) (n h : Nat) (th tt : Int32) (hn1 : 1 ≤ n) (hn6 : n ≤ 6) : Met l yX3_holdThursday wsX3_holdThursday ({ frames := 3, cells := 0, slots := 0, locals := 64 }) (va_Pc [.ref q0] (PW (dC, dI) cI cZ sz [(q0, .inr (2, [.ref q1, .ref q2, .ref q3, .ref q4, .ref q5, .ref q6, .ref q7, .int (nI n), .int (nI h), .int (th), .int (tt)])), (q1, .inl (cI, 6, .inl (fk))), (q2, .inl (cI, 6, .inl (fs))), (q3, .inl (cI, 6, .inl (fn))), (q4, .inl (cZ, 6, .inl (fi))), (q5, .inl (cI, 8, .inl (fc))), (q6, .inl (cI, 8, .inl (fw))), (q7, .inl (cI, 8, .inl (ft)))])) (QWi (dC, dI) (nI ((htF fk fs fi (n - 1) fn 0).2)) [(q0, .inr (2, [.ref q1, .ref q2, .ref q3, .ref q4, .ref q5, .ref q6, .ref q7, .int (nI n), .int (nI h), .int (th), .int (tt)])), (q1, .inl (cI, 6, .inl (fk))), (q2, .inl (cI, 6, .inl (fs))), (q3, .inl (cI, 6, .inl (fn))), (q4, .inl (cZ, 6, .inl (fi))), (q5, .inl (cI, 8, .inl (fc))), (q6, .inl (cI, 8, .inl (fw))), (q7, .inl (cI, 8, .inl (ft)))] [(q0, .inr (2, [.ref q1, .ref q2, .ref q3, .ref q4, .ref q5, .ref q6, .ref q7, .int (nI n), .int (nI h), .int ((th + nI 1)), .int ((tt + nI (htF fk fs fi (n - 1) fn 0).2))])), (q1, .inl (cI, 6, .inl (fk))), (q2, .inl (cI, 6, .inl (fs))), (q3, .inl (cI, 6, .inl (((htF fk fs fi (n - 1) fn 0).1)))), (q4, .inl (cZ, 6, .inl (fi))), (q5, .inl (cI, 8, .inl (fc))), (q6, .inl (cI, 8, .inl (fw))), (q7, .inl (cI, 8, .inl (ft)))] sz) 0 0 (va_A [(q0, .inr (2, [.ref q1, .ref q2, .ref q3, .ref q4, .ref q5, .ref q6, .ref q7, .int (nI n), .int (nI h), .int (th), .int (tt)])), (q1, .inl (cI, 6, .inl (fk))), (q2, .inl (cI, 6, .inl (fs))), (q3, .inl (cI, 6, .inl (fn))), (q4, .inl (cZ, 6, .inl (fi))), (q5, .inl (cI, 8, .inl (fc))), (q6, .inl (cI, 8, .inl (fw))), (q7, .inl (cI, 8, .inl (ft)))] sz) := by
  refine Met.ofW (cc := cX3_holdThursday) (maxL := 3) (ret := (some .int)) (by decide) rfl ?_
  intro p e s m args below meth co s₁ B hml hv
  obtain ⟨rfl, hsz, hP, hK, hD0⟩ := hv
  have hx := B.exec
  have hb := B.bytes
  have hr := B.returns
  have hts := atoms_spec (ws := wsX3_holdThursday) B.pre
  have hown : s.vm.findClass RX3 = some m.cls := findClass_of_methodNamed B.named
  have hlocks := B.notSynchronized
  subst hsz
  have hD := hD0.self (sz := s.heap.size)
  generalize hAe : va_A [(q0, .inr (2, [.ref q1, .ref q2, .ref q3, .ref q4, .ref q5, .ref q6, .ref q7, .int (nI n), .int (nI h), .int (th), .int (tt)])), (q1, .inl (cI, 6, .inl (fk))), (q2, .inl (cI, 6, .inl (fs))), (q3, .inl (cI, 6, .inl (fn))), (q4, .inl (cZ, 6, .inl (fi))), (q5, .inl (cI, 8, .inl (fc))), (q6, .inl (cI, 8, .inl (fw))), (q7, .inl (cI, 8, .inl (ft)))] s.heap.size = A at hD
  have hA : ∀ q : Nat, s.heap.size ≤ q → A q := fun q h => by rw [← hAe]; exact Or.inr h
  have hS : va_S A s.heap s.heap [] := va_S.rf
  have inX3 : ∀ w ∈ u_ws RX3 TX3 11, w ∈ wsX3_holdThursday := by decide +kernel
  have lf18 := hts (.fieldLink RX3 18 "ThursdayRungs$School" "known" "[I") (by decide +kernel)
  have lf41 := hts (.fieldLink RX3 41 "ThursdayRungs$School" "thursdays" "I") (by decide +kernel)
  have lf44 := hts (.fieldLink RX3 44 "ThursdayRungs$School" "timesTaught" "I") (by decide +kernel)
  have hl := lv_entry ([.ref q0]) (n := 3) (Nat.le_of_ble_eq_true rfl)
  rw [lg_entry_eq]
  generalize (lg_sl ([.ref q0]) ++ List.replicate (3 - (lg_sl ([.ref q0])).length) Slot.unset).toArray = ls at hl ⊢
  have hl : lv_has ls 3 [(0, .ref q0)] := hl
  have hP : va_P (dC, dI) vwCl [(q0, .inr (2, [.ref q1, .ref q2, .ref q3, .ref q4, .ref q5, .ref q6, .ref q7, .int (nI n), .int (nI h), .int (th), .int (tt)])), (q1, .inl (cI, 6, .inl (fk))), (q2, .inl (cI, 6, .inl (fs))), (q3, .inl (cI, 6, .inl (fn))), (q4, .inl (cZ, 6, .inl (fi))), (q5, .inl (cI, 8, .inl (fc))), (q6, .inl (cI, 8, .inl (fw))), (q7, .inl (cI, 8, .inl (ft)))] s.heap := hP
  refine lv_iconst (v := nI 0) hx hb dX3_holdThursday_0 (by decide) ?_
  refine lv_istore_n (lv' := [(1, .int (nI 0)), (0, .ref q0)]) hx hb dX3_holdThursday_1 rfl hl (by decide) rfl (fun ls hl => ?_)
  refine lv_aload_n hx hb dX3_holdThursday_2 rfl (lv_at hl 1 rfl) ?_
  have hPc := hP.sub (ws' := [(q0, .inr (2, [.ref q1, .ref q2, .ref q3, .ref q4, .ref q5, .ref q6, .ref q7, .int (nI n), .int (nI h), .int (th), .int (tt)])), (q1, .inl (cI, 6, .inl (fk))), (q2, .inl (cI, 6, .inl (fs))), (q3, .inl (cI, 6, .inl (fn))), (q4, .inl (cZ, 6, .inl (fi))), (q5, .inl (cI, 8, .inl (fc))), (q6, .inl (cI, 8, .inl (fw))), (q7, .inl (cI, 8, .inl (ft)))]) [0, 1, 2, 3, 4, 5, 6, 7] rfl
  refine callRi (v := nI (n - 1)) (W.runV (As := []) (rest := []) ⟨hx, hb, hml, hown, hts⟩ (k_X3_top l dC dI cI cZ q0 q1 q2 q3 q4 q5 q6 q7 (fk) (fs) (fn) (fi) (fc) (fw) (ft) (n) (h) (th) (tt) (by first | omega | with_reducible assumption | (simp; omega)) (by first | omega | with_reducible assumption | (simp; omega))) (cwV 0 hts gX3_holdThursday_X3_top rfl rfl rfl (by decide +kernel) ⟨Nat.le_of_ble_eq_true rfl, Nat.le_of_ble_eq_true rfl⟩) (preRV (q := (RX3, TX3, 11)) (ci := 2) hK hPc rfl rfl) rfl rfl hl.1 rfl (lv_room (Nat.le_of_ble_eq_true rfl)) dX3_holdThursday_3 ⟨Nat.zero_le _, Nat.zero_le _⟩) ?_
  refine lv_istore_n (lv' := [(2, .int (nI (n - 1))), (1, .int (nI 0)), (0, .ref q0)]) hx hb dX3_holdThursday_6 rfl hl (by decide) rfl (fun ls hl => ?_)
  have lp7 : ∀ (w : Nat) (k : Nat) (t : Nat) (g : Nat → Int32), k < w → k ≤ n - 1 → htF fk fs fi (n - 1) fn 0 = htF fk fs fi k g t → ∀ (H : Heap) (locs : List Loc), va_P (dC, dI) vwCl [(q0, .inr (2, [.ref q1, .ref q2, .ref q3, .ref q4, .ref q5, .ref q6, .ref q7, .int (nI n), .int (nI h), .int (th), .int (tt)])), (q1, .inl (cI, 6, .inl (fk))), (q2, .inl (cI, 6, .inl (fs))), (q3, .inl (cI, 6, .inl (g))), (q4, .inl (cZ, 6, .inl (fi))), (q5, .inl (cI, 8, .inl (fc))), (q6, .inl (cI, 8, .inl (fw))), (q7, .inl (cI, 8, .inl (ft)))] H → va_D A [(q0, .inr (2, [.ref q1, .ref q2, .ref q3, .ref q4, .ref q5, .ref q6, .ref q7, .int (nI n), .int (nI h), .int (th), .int (tt)])), (q1, .inl (cI, 6, .inl (fk))), (q2, .inl (cI, 6, .inl (fs))), (q3, .inl (cI, 6, .inl (g))), (q4, .inl (cZ, 6, .inl (fi))), (q5, .inl (cI, 8, .inl (fc))), (q6, .inl (cI, 8, .inl (fw))), (q7, .inl (cI, 8, .inl (ft)))] → va_S A s.heap H locs → ∀ (ls : Array Slot), lv_has ls 3 [(0, .ref q0), (1, .int (nI t)), (2, .int (nI k))] → W p l e (headSpec wsX3_holdThursday ({ frames := 3, cells := 0, slots := 0, locals := 64 })).room s m ([.ref q0] : List Value).toArray below meth co H locs 0 0 (MQ below (QWi (dC, dI) (nI ((htF fk fs fi (n - 1) fn 0).2)) [(q0, .inr (2, [.ref q1, .ref q2, .ref q3, .ref q4, .ref q5, .ref q6, .ref q7, .int (nI n), .int (nI h), .int (th), .int (tt)])), (q1, .inl (cI, 6, .inl (fk))), (q2, .inl (cI, 6, .inl (fs))), (q3, .inl (cI, 6, .inl (fn))), (q4, .inl (cZ, 6, .inl (fi))), (q5, .inl (cI, 8, .inl (fc))), (q6, .inl (cI, 8, .inl (fw))), (q7, .inl (cI, 8, .inl (ft)))] [(q0, .inr (2, [.ref q1, .ref q2, .ref q3, .ref q4, .ref q5, .ref q6, .ref q7, .int (nI n), .int (nI h), .int ((th + nI 1)), .int ((tt + nI (htF fk fs fi (n - 1) fn 0).2))])), (q1, .inl (cI, 6, .inl (fk))), (q2, .inl (cI, 6, .inl (fs))), (q3, .inl (cI, 6, .inl (((htF fk fs fi (n - 1) fn 0).1)))), (q4, .inl (cZ, 6, .inl (fi))), (q5, .inl (cI, 8, .inl (fc))), (q6, .inl (cI, 8, .inl (fw))), (q7, .inl (cI, 8, .inl (ft)))] s.heap.size) ([.ref q0] : List Value).toArray s 0 0 A) (F0 m 7 ls []) := by
    intro w
    induction w with
    | zero => intro k t g h0; exact absurd h0 (Nat.not_lt_zero _)
    | succ w ih7 =>
      intro k t g hm_1 hk hL H locs hP hD hS ls hl
      refine lv_iload_n hx hb dX3_holdThursday_7 rfl (lv_at hl 2 rfl) ?_
      refine w_ifleN (tgt := 41) hx hb (by omega) dX3_holdThursday_8 (by decide) (fun c_2 => ?_) (fun c_2 => ?_)
      · skip
        refine lv_aload_n hx hb dX3_holdThursday_41 rfl (lv_at hl 0 rfl) ?_
        refine lv_dup hx hb dX3_holdThursday_42 rfl ?_
        refine va_get (D := (dC, dI)) (ci := 2) (v := .int (th)) (C := RX3) (T := TX3) (N := 11) hx hb hts inX3 hown hK hP 0 rfl rfl 9 (by decide) lf41 (fun _ h9 => h9) rfl dX3_holdThursday_43 ?_
        refine lv_iconst (v := nI 1) hx hb dX3_holdThursday_46 (by decide) ?_
        refine lv_iadd hx hb dX3_holdThursday_47 ?_
        refine va_put (D := (dC, dI)) (ci := 2) (v := .int ((th) + (nI 1))) (ty := .int) (C := RX3) (T := TX3) (N := 11) hx hb hts inX3 tyX3 tyX3_ok nmX3 hown hK hP hD hS 0 rfl rfl 9 (by decide) lf41 (fun _ h9 => h9) rfl (by decide +kernel) rfl rfl (Nat.le_of_ble_eq_true rfl) dX3_holdThursday_48 (fun H locs hP hD hS => ?_)
        have hP : va_P (dC, dI) vwCl [(q0, .inr (2, [.ref q1, .ref q2, .ref q3, .ref q4, .ref q5, .ref q6, .ref q7, .int (nI n), .int (nI h), .int ((th) + (nI 1)), .int (tt)])), (q1, .inl (cI, 6, .inl (fk))), (q2, .inl (cI, 6, .inl (fs))), (q3, .inl (cI, 6, .inl (g))), (q4, .inl (cZ, 6, .inl (fi))), (q5, .inl (cI, 8, .inl (fc))), (q6, .inl (cI, 8, .inl (fw))), (q7, .inl (cI, 8, .inl (ft)))] H := hP
        have hD : va_D A [(q0, .inr (2, [.ref q1, .ref q2, .ref q3, .ref q4, .ref q5, .ref q6, .ref q7, .int (nI n), .int (nI h), .int ((th) + (nI 1)), .int (tt)])), (q1, .inl (cI, 6, .inl (fk))), (q2, .inl (cI, 6, .inl (fs))), (q3, .inl (cI, 6, .inl (g))), (q4, .inl (cZ, 6, .inl (fi))), (q5, .inl (cI, 8, .inl (fc))), (q6, .inl (cI, 8, .inl (fw))), (q7, .inl (cI, 8, .inl (ft)))] := hD
        refine lv_aload_n hx hb dX3_holdThursday_51 rfl (lv_at hl 0 rfl) ?_
        refine lv_dup hx hb dX3_holdThursday_52 rfl ?_
        refine va_get (D := (dC, dI)) (ci := 2) (v := .int (tt)) (C := RX3) (T := TX3) (N := 11) hx hb hts inX3 hown hK hP 0 rfl rfl 10 (by decide) lf44 (fun _ h9 => h9) rfl dX3_holdThursday_53 ?_
        refine lv_iload_n hx hb dX3_holdThursday_56 rfl (lv_at hl 1 rfl) ?_
        refine lv_iadd hx hb dX3_holdThursday_57 ?_
        refine va_put (D := (dC, dI)) (ci := 2) (v := .int ((tt) + (nI t))) (ty := .int) (C := RX3) (T := TX3) (N := 11) hx hb hts inX3 tyX3 tyX3_ok nmX3 hown hK hP hD hS 0 rfl rfl 10 (by decide) lf44 (fun _ h9 => h9) rfl (by decide +kernel) rfl rfl (Nat.le_of_ble_eq_true rfl) dX3_holdThursday_58 (fun H locs hP hD hS => ?_)
        have hP : va_P (dC, dI) vwCl [(q0, .inr (2, [.ref q1, .ref q2, .ref q3, .ref q4, .ref q5, .ref q6, .ref q7, .int (nI n), .int (nI h), .int ((th) + (nI 1)), .int ((tt) + (nI t))])), (q1, .inl (cI, 6, .inl (fk))), (q2, .inl (cI, 6, .inl (fs))), (q3, .inl (cI, 6, .inl (g))), (q4, .inl (cZ, 6, .inl (fi))), (q5, .inl (cI, 8, .inl (fc))), (q6, .inl (cI, 8, .inl (fw))), (q7, .inl (cI, 8, .inl (ft)))] H := hP
        have hD : va_D A [(q0, .inr (2, [.ref q1, .ref q2, .ref q3, .ref q4, .ref q5, .ref q6, .ref q7, .int (nI n), .int (nI h), .int ((th) + (nI 1)), .int ((tt) + (nI t))])), (q1, .inl (cI, 6, .inl (fk))), (q2, .inl (cI, 6, .inl (fs))), (q3, .inl (cI, 6, .inl (g))), (q4, .inl (cZ, 6, .inl (fi))), (q5, .inl (cI, 8, .inl (fc))), (q6, .inl (cI, 8, .inl (fw))), (q7, .inl (cI, 8, .inl (ft)))] := hD
        refine lv_iload_n hx hb dX3_holdThursday_61 rfl (lv_at hl 1 rfl) ?_
        have hP7 := hP.sub (ws' := [(q0, .inr (2, [.ref q1, .ref q2, .ref q3, .ref q4, .ref q5, .ref q6, .ref q7, .int (nI n), .int (nI h), .int ((th) + (nI 1)), .int ((tt) + (nI t))])), (q1, .inl (cI, 6, .inl (fk))), (q2, .inl (cI, 6, .inl (fs))), (q3, .inl (cI, 6, .inl (g))), (q4, .inl (cZ, 6, .inl (fi))), (q5, .inl (cI, 8, .inl (fc))), (q6, .inl (cI, 8, .inl (fw))), (q7, .inl (cI, 8, .inl (ft)))]) [0, 1, 2, 3, 4, 5, 6, 7] rfl
        have hD7 := hD.sub (ws' := [(q0, .inr (2, [.ref q1, .ref q2, .ref q3, .ref q4, .ref q5, .ref q6, .ref q7, .int (nI n), .int (nI h), .int ((th) + (nI 1)), .int ((tt) + (nI t))])), (q1, .inl (cI, 6, .inl (fk))), (q2, .inl (cI, 6, .inl (fs))), (q3, .inl (cI, 6, .inl (g))), (q4, .inl (cZ, 6, .inl (fi))), (q5, .inl (cI, 8, .inl (fc))), (q6, .inl (cI, 8, .inl (fw))), (q7, .inl (cI, 8, .inl (ft)))]) [0, 1, 2, 3, 4, 5, 6, 7] (by decide) rfl
        have he_3 : ((th) + (nI 1) : Int32) = (th + nI 1) := by rfl
        have he_4 : ((tt) + (nI t) : Int32) = (tt + nI (htF fk fs fi (n - 1) fn 0).2) := by rw [hL, show k = 0 by omega]; rfl
        have he_5 : (g : Nat → Int32) = ((htF fk fs fi (n - 1) fn 0).1) := by rw [hL, show k = 0 by omega]; rfl
        have heq : ([(q0, .inr (2, [.ref q1, .ref q2, .ref q3, .ref q4, .ref q5, .ref q6, .ref q7, .int (nI n), .int (nI h), .int ((th) + (nI 1)), .int ((tt) + (nI t))])), (q1, .inl (cI, 6, .inl (fk))), (q2, .inl (cI, 6, .inl (fs))), (q3, .inl (cI, 6, .inl (g))), (q4, .inl (cZ, 6, .inl (fi))), (q5, .inl (cI, 8, .inl (fc))), (q6, .inl (cI, 8, .inl (fw))), (q7, .inl (cI, 8, .inl (ft)))] : va_W) = [(q0, .inr (2, [.ref q1, .ref q2, .ref q3, .ref q4, .ref q5, .ref q6, .ref q7, .int (nI n), .int (nI h), .int ((th + nI 1)), .int ((tt + nI (htF fk fs fi (n - 1) fn 0).2))])), (q1, .inl (cI, 6, .inl (fk))), (q2, .inl (cI, 6, .inl (fs))), (q3, .inl (cI, 6, .inl (((htF fk fs fi (n - 1) fn 0).1)))), (q4, .inl (cZ, 6, .inl (fi))), (q5, .inl (cI, 8, .inl (fc))), (q6, .inl (cI, 8, .inl (fw))), (q7, .inl (cI, 8, .inl (ft)))] := by rw [← he_3, ← he_4, ← he_5]
        have hP7 := w_Pc hP7 heq
        have hD7 := w_Dc hD7 heq
        exact retWi hx hb hr hlocks (by rw [hL, show k = 0 by omega]; rfl) hP7 hD7 hS hAe dX3_holdThursday_62
      · skip
        refine lv_aload_n hx hb dX3_holdThursday_11 rfl (lv_at hl 0 rfl) ?_
        refine lv_iload_n hx hb dX3_holdThursday_12 rfl (lv_at hl 2 rfl) ?_
        have hPc := hP.sub (ws' := [(q0, .inr (2, [.ref q1, .ref q2, .ref q3, .ref q4, .ref q5, .ref q6, .ref q7, .int (nI n), .int (nI h), .int (th), .int (tt)])), (q1, .inl (cI, 6, .inl (fk))), (q2, .inl (cI, 6, .inl (fs))), (q3, .inl (cI, 6, .inl (g))), (q4, .inl (cZ, 6, .inl (fi))), (q5, .inl (cI, 8, .inl (fc))), (q6, .inl (cI, 8, .inl (fw))), (q7, .inl (cI, 8, .inl (ft)))]) [0, 1, 2, 3, 4, 5, 6, 7] rfl
        refine callRi (v := (if (ttP fk fs g fi k) then nI 1 else nI 0)) (W.runV (As := [.int (nI k)]) (rest := []) ⟨hx, hb, hml, hown, hts⟩ (k_X3_isTaughtNext l dC dI cI cZ q0 q1 q2 q3 q4 q5 q6 q7 (fk) (fs) (g) (fi) (fc) (fw) (ft) (n) (h) (th) (tt) (k) (by first | omega | with_reducible assumption | (simp; omega))) (cwV 1 hts gX3_holdThursday_X3_isTaughtNext rfl rfl rfl (by decide +kernel) ⟨Nat.le_of_ble_eq_true rfl, Nat.le_of_ble_eq_true rfl⟩) (preRV (q := (RX3, TX3, 11)) (ci := 2) hK hPc rfl rfl) rfl rfl hl.1 rfl (lv_room (Nat.le_of_ble_eq_true rfl)) dX3_holdThursday_13 ⟨Nat.zero_le _, Nat.zero_le _⟩) ?_
        refine w_ifeqB (tgt := 35) hx hb dX3_holdThursday_16 (by decide) (fun c_6 => ?_) (fun c_6 => ?_)
        · skip
          refine lv_iinc (v := nI (k - 1)) (lv' := [(2, .int (nI (k - 1))), (0, .ref q0), (1, .int (nI t))]) hx hb dX3_holdThursday_35 hl (k := 2) rfl (w_dec1 (by omega)) (by decide) rfl (fun ls hl => ?_)
          refine lv_goto (tgt := 7) hx hb dX3_holdThursday_38 (by decide) ?_
          have hP7 := hP.sub (ws' := [(q0, .inr (2, [.ref q1, .ref q2, .ref q3, .ref q4, .ref q5, .ref q6, .ref q7, .int (nI n), .int (nI h), .int (th), .int (tt)])), (q1, .inl (cI, 6, .inl (fk))), (q2, .inl (cI, 6, .inl (fs))), (q3, .inl (cI, 6, .inl (g))), (q4, .inl (cZ, 6, .inl (fi))), (q5, .inl (cI, 8, .inl (fc))), (q6, .inl (cI, 8, .inl (fw))), (q7, .inl (cI, 8, .inl (ft)))]) [0, 1, 2, 3, 4, 5, 6, 7] rfl
          have hD7 := hD.sub (ws' := [(q0, .inr (2, [.ref q1, .ref q2, .ref q3, .ref q4, .ref q5, .ref q6, .ref q7, .int (nI n), .int (nI h), .int (th), .int (tt)])), (q1, .inl (cI, 6, .inl (fk))), (q2, .inl (cI, 6, .inl (fs))), (q3, .inl (cI, 6, .inl (g))), (q4, .inl (cZ, 6, .inl (fi))), (q5, .inl (cI, 8, .inl (fc))), (q6, .inl (cI, 8, .inl (fw))), (q7, .inl (cI, 8, .inl (ft)))]) [0, 1, 2, 3, 4, 5, 6, 7] (by decide) rfl
          exact ih7 (k - 1) (t) (g) (by omega) (by first | omega | with_reducible assumption | (first | with_reducible rfl | exact (if_pos (c_6)).symm | exact (if_neg (c_6)).symm | (simp [hn1, hn6, hk, hL, c_2, c_6]; done) | omega | rfl)) (by rw [hL]; obtain ⟨i, rfl⟩ : ∃ i, k = i + 1 := ⟨k - 1, by omega⟩; first | exact htF_t c_6 | exact htF_f c_6) _ _ hP7 hD7 hS ls (lv_sub hl [1, 2, 0] rfl)
        · skip
          refine lv_aload_n hx hb dX3_holdThursday_19 rfl (lv_at hl 0 rfl) ?_
          refine va_get (D := (dC, dI)) (ci := 2) (v := .ref q3) (C := RX3) (T := TX3) (N := 11) hx hb hts inX3 hown hK hP 0 rfl rfl 2 (by decide) lf18 (fun _ h9 => h9) rfl dX3_holdThursday_20 ?_
          refine lv_iload_n hx hb dX3_holdThursday_23 rfl (lv_at hl 2 rfl) ?_
          refine lv_aload_n hx hb dX3_holdThursday_24 rfl (lv_at hl 0 rfl) ?_
          refine lv_iload_n hx hb dX3_holdThursday_25 rfl (lv_at hl 2 rfl) ?_
          refine lv_iconst (v := nI 1) hx hb dX3_holdThursday_26 (by decide) ?_
          refine w_subN hx hb (by omega) dX3_holdThursday_27 ?_
          have hPc := hP.sub (ws' := [(q0, .inr (2, [.ref q1, .ref q2, .ref q3, .ref q4, .ref q5, .ref q6, .ref q7, .int (nI n), .int (nI h), .int (th), .int (tt)])), (q1, .inl (cI, 6, .inl (fk))), (q2, .inl (cI, 6, .inl (fs))), (q3, .inl (cI, 6, .inl (g))), (q4, .inl (cZ, 6, .inl (fi))), (q5, .inl (cI, 8, .inl (fc))), (q6, .inl (cI, 8, .inl (fw))), (q7, .inl (cI, 8, .inl (ft)))]) [0, 1, 2, 3, 4, 5, 6, 7] rfl
          refine callRi (v := (wt fk fs g fi (k - 1))) (W.runV (As := [.int (nI (k - 1))]) (rest := [.int (nI k), .ref q3]) ⟨hx, hb, hml, hown, hts⟩ (k_X3_taughtNowBy l dC dI cI cZ q0 q1 q2 q3 q4 q5 q6 q7 (fk) (fs) (g) (fi) (fc) (fw) (ft) (n) (h) (th) (tt) (k - 1) (by first | omega | with_reducible assumption | (simp; omega))) (cwV 1 hts gX3_holdThursday_X3_taughtNowBy rfl rfl rfl (by decide +kernel) ⟨Nat.le_of_ble_eq_true rfl, Nat.le_of_ble_eq_true rfl⟩) (preRV (q := (RX3, TX3, 11)) (ci := 2) hK hPc rfl rfl) rfl rfl hl.1 rfl (lv_room (Nat.le_of_ble_eq_true rfl)) dX3_holdThursday_28 ⟨Nat.zero_le _, Nat.zero_le _⟩) ?_
          refine w_iast (k := k) hx hb hK hP hD hS 3 0 rfl rfl (by omega) (by decide) dX3_holdThursday_31 (fun H locs hP hD hS => ?_)
          have hP : va_P (dC, dI) vwCl [(q0, .inr (2, [.ref q1, .ref q2, .ref q3, .ref q4, .ref q5, .ref q6, .ref q7, .int (nI n), .int (nI h), .int (th), .int (tt)])), (q1, .inl (cI, 6, .inl (fk))), (q2, .inl (cI, 6, .inl (fs))), (q3, .inl (cI, 6, .inl (upd g k ((wt fk fs g fi (k - 1)))))), (q4, .inl (cZ, 6, .inl (fi))), (q5, .inl (cI, 8, .inl (fc))), (q6, .inl (cI, 8, .inl (fw))), (q7, .inl (cI, 8, .inl (ft)))] H := hP
          have hD : va_D A [(q0, .inr (2, [.ref q1, .ref q2, .ref q3, .ref q4, .ref q5, .ref q6, .ref q7, .int (nI n), .int (nI h), .int (th), .int (tt)])), (q1, .inl (cI, 6, .inl (fk))), (q2, .inl (cI, 6, .inl (fs))), (q3, .inl (cI, 6, .inl (upd g k ((wt fk fs g fi (k - 1)))))), (q4, .inl (cZ, 6, .inl (fi))), (q5, .inl (cI, 8, .inl (fc))), (q6, .inl (cI, 8, .inl (fw))), (q7, .inl (cI, 8, .inl (ft)))] := hD
          refine lv_iinc (v := nI (t + 1)) (lv' := [(1, .int (nI (t + 1))), (0, .ref q0), (2, .int (nI k))]) hx hb dX3_holdThursday_32 hl (k := 1) rfl w_inc1 (by decide) rfl (fun ls hl => ?_)
          refine lv_iinc (v := nI (k - 1)) (lv' := [(2, .int (nI (k - 1))), (1, .int (nI (t + 1))), (0, .ref q0)]) hx hb dX3_holdThursday_35 hl (k := 2) rfl (w_dec1 (by omega)) (by decide) rfl (fun ls hl => ?_)
          refine lv_goto (tgt := 7) hx hb dX3_holdThursday_38 (by decide) ?_
          have hP7 := hP.sub (ws' := [(q0, .inr (2, [.ref q1, .ref q2, .ref q3, .ref q4, .ref q5, .ref q6, .ref q7, .int (nI n), .int (nI h), .int (th), .int (tt)])), (q1, .inl (cI, 6, .inl (fk))), (q2, .inl (cI, 6, .inl (fs))), (q3, .inl (cI, 6, .inl (upd g k ((wt fk fs g fi (k - 1)))))), (q4, .inl (cZ, 6, .inl (fi))), (q5, .inl (cI, 8, .inl (fc))), (q6, .inl (cI, 8, .inl (fw))), (q7, .inl (cI, 8, .inl (ft)))]) [0, 1, 2, 3, 4, 5, 6, 7] rfl
          have hD7 := hD.sub (ws' := [(q0, .inr (2, [.ref q1, .ref q2, .ref q3, .ref q4, .ref q5, .ref q6, .ref q7, .int (nI n), .int (nI h), .int (th), .int (tt)])), (q1, .inl (cI, 6, .inl (fk))), (q2, .inl (cI, 6, .inl (fs))), (q3, .inl (cI, 6, .inl (upd g k ((wt fk fs g fi (k - 1)))))), (q4, .inl (cZ, 6, .inl (fi))), (q5, .inl (cI, 8, .inl (fc))), (q6, .inl (cI, 8, .inl (fw))), (q7, .inl (cI, 8, .inl (ft)))]) [0, 1, 2, 3, 4, 5, 6, 7] (by decide) rfl
          exact ih7 (k - 1) (t + 1) (upd g k ((wt fk fs g fi (k - 1)))) (by omega) (by first | omega | with_reducible assumption | (first | with_reducible rfl | exact (if_pos (c_6)).symm | exact (if_neg (c_6)).symm | (simp [hn1, hn6, hk, hL, c_2, c_6]; done) | omega | rfl)) (by rw [hL]; obtain ⟨i, rfl⟩ : ∃ i, k = i + 1 := ⟨k - 1, by omega⟩; first | exact htF_t c_6 | exact htF_f c_6) _ _ hP7 hD7 hS ls (lv_sub hl [2, 1, 0] rfl)
  have hP7 := hP.sub (ws' := [(q0, .inr (2, [.ref q1, .ref q2, .ref q3, .ref q4, .ref q5, .ref q6, .ref q7, .int (nI n), .int (nI h), .int (th), .int (tt)])), (q1, .inl (cI, 6, .inl (fk))), (q2, .inl (cI, 6, .inl (fs))), (q3, .inl (cI, 6, .inl (fn))), (q4, .inl (cZ, 6, .inl (fi))), (q5, .inl (cI, 8, .inl (fc))), (q6, .inl (cI, 8, .inl (fw))), (q7, .inl (cI, 8, .inl (ft)))]) [0, 1, 2, 3, 4, 5, 6, 7] rfl
  have hD7 := hD.sub (ws' := [(q0, .inr (2, [.ref q1, .ref q2, .ref q3, .ref q4, .ref q5, .ref q6, .ref q7, .int (nI n), .int (nI h), .int (th), .int (tt)])), (q1, .inl (cI, 6, .inl (fk))), (q2, .inl (cI, 6, .inl (fs))), (q3, .inl (cI, 6, .inl (fn))), (q4, .inl (cZ, 6, .inl (fi))), (q5, .inl (cI, 8, .inl (fc))), (q6, .inl (cI, 8, .inl (fw))), (q7, .inl (cI, 8, .inl (ft)))]) [0, 1, 2, 3, 4, 5, 6, 7] (by decide) rfl
  exact lp7 ((n - 1) + 1) (n - 1) (0) (fn) (Nat.lt_succ_self _) (by first | omega | with_reducible assumption | (first | with_reducible rfl | exact (if_pos (hn6)).symm | exact (if_neg (hn6)).symm | (simp [hn1, hn6]; done) | omega | rfl)) (by rfl) _ _ hP7 hD7 hS ls (lv_sub hl [2, 1, 0] rfl)
end
section
set_option maxHeartbeats 4000000 in
set_option maxRecDepth 100000 in
theorem k_X3_beginAnew (l : Launch) (dC : Nat → ClassId) (dI : Nat → Nat → Nat) (cI cZ : ClassId) (q0 q1 q2 q3 q4 q5 q6 q7 w0 : Nat) (sz : Nat) (fk fs fn fi fc fw ft : Nat → Int32) (n h : Nat) (th tt : Int32) (sx : Nat) (hn1 : 1 ≤ n) (hn6 : n ≤ 6) (hsx : sx < 2147483648) : Met l yX3_beginAnew wsX3_beginAnew ({ frames := 1, cells := 0, slots := 0, locals := 21 }) (va_Pc [.ref q0, .ref w0] (PW (dC, dI) cI cZ sz [(q0, .inr (2, [.ref q1, .ref q2, .ref q3, .ref q4, .ref q5, .ref q6, .ref q7, .int (nI n), .int (nI h), .int (th), .int (tt)])), (q1, .inl (cI, 6, .inl (fk))), (q2, .inl (cI, 6, .inl (fs))), (q3, .inl (cI, 6, .inl (fn))), (q4, .inl (cZ, 6, .inl (fi))), (q5, .inl (cI, 8, .inl (fc))), (q6, .inl (cI, 8, .inl (fw))), (q7, .inl (cI, 8, .inl (ft))), (w0, .inr (0, [.long (lN sx)]))])) (QWv (dC, dI) [(q0, .inr (2, [.ref q1, .ref q2, .ref q3, .ref q4, .ref q5, .ref q6, .ref q7, .int (nI n), .int (nI h), .int (th), .int (tt)])), (q1, .inl (cI, 6, .inl (fk))), (q2, .inl (cI, 6, .inl (fs))), (q3, .inl (cI, 6, .inl (fn))), (q4, .inl (cZ, 6, .inl (fi))), (q5, .inl (cI, 8, .inl (fc))), (q6, .inl (cI, 8, .inl (fw))), (q7, .inl (cI, 8, .inl (ft))), (w0, .inr (0, [.long (lN sx)]))] [(q0, .inr (2, [.ref q1, .ref q2, .ref q3, .ref q4, .ref q5, .ref q6, .ref q7, .int (nI n), .int (nI h), .int (th), .int (tt)])), (q1, .inl (cI, 6, .inl (fk))), (q2, .inl (cI, 6, .inl (fs))), (q3, .inl (cI, 6, .inl ((upd fn 0 (nI (nx sx / 65536 % 12)))))), (q4, .inl (cZ, 6, .inl ((ilF (nx (nx sx) / 65536 % (n + 1)) n fi)))), (q5, .inl (cI, 8, .inl (fc))), (q6, .inl (cI, 8, .inl (fw))), (q7, .inl (cI, 8, .inl (ft))), (w0, .inr (0, [.long (lN ((nx (nx sx))))]))] sz) 0 0 (va_A [(q0, .inr (2, [.ref q1, .ref q2, .ref q3, .ref q4, .ref q5, .ref q6, .ref q7, .int (nI n), .int (nI h), .int (th), .int (tt)])), (q1, .inl (cI, 6, .inl (fk))), (q2, .inl (cI, 6, .inl (fs))), (q3, .inl (cI, 6, .inl (fn))), (q4, .inl (cZ, 6, .inl (fi))), (q5, .inl (cI, 8, .inl (fc))), (q6, .inl (cI, 8, .inl (fw))), (q7, .inl (cI, 8, .inl (ft))), (w0, .inr (0, [.long (lN sx)]))] sz) := by
  refine Met.ofW (cc := cX3_beginAnew) (maxL := 4) (ret := none) (by decide) rfl ?_
  intro p e s m args below meth co s₁ B hml hv
  obtain ⟨rfl, hsz, hP, hK, hD0⟩ := hv
  have hx := B.exec
  have hb := B.bytes
  have hr := B.returns
  have hts := atoms_spec (ws := wsX3_beginAnew) B.pre
  have hown : s.vm.findClass RX3 = some m.cls := findClass_of_methodNamed B.named
  have hlocks := B.notSynchronized
  subst hsz
  have hD := hD0.self (sz := s.heap.size)
  generalize hAe : va_A [(q0, .inr (2, [.ref q1, .ref q2, .ref q3, .ref q4, .ref q5, .ref q6, .ref q7, .int (nI n), .int (nI h), .int (th), .int (tt)])), (q1, .inl (cI, 6, .inl (fk))), (q2, .inl (cI, 6, .inl (fs))), (q3, .inl (cI, 6, .inl (fn))), (q4, .inl (cZ, 6, .inl (fi))), (q5, .inl (cI, 8, .inl (fc))), (q6, .inl (cI, 8, .inl (fw))), (q7, .inl (cI, 8, .inl (ft))), (w0, .inr (0, [.long (lN sx)]))] s.heap.size = A at hD
  have hA : ∀ q : Nat, s.heap.size ≤ q → A q := fun q h => by rw [← hAe]; exact Or.inr h
  have hS : va_S A s.heap s.heap [] := va_S.rf
  have inX3 : ∀ w ∈ u_ws RX3 TX3 11, w ∈ wsX3_beginAnew := by decide +kernel
  have lf18 := hts (.fieldLink RX3 18 "ThursdayRungs$School" "known" "[I") (by decide +kernel)
  have lf21 := hts (.fieldLink RX3 21 "ThursdayRungs$School" "ill" "[Z") (by decide +kernel)
  have lf34 := hts (.fieldLink RX3 34 "ThursdayRungs$School" "size" "I") (by decide +kernel)
  have hl := lv_entry ([.ref q0, .ref w0]) (n := 4) (Nat.le_of_ble_eq_true rfl)
  rw [lg_entry_eq]
  generalize (lg_sl ([.ref q0, .ref w0]) ++ List.replicate (4 - (lg_sl ([.ref q0, .ref w0])).length) Slot.unset).toArray = ls at hl ⊢
  have hl : lv_has ls 4 [(0, .ref q0), (1, .ref w0)] := hl
  have hP : va_P (dC, dI) vwCl [(q0, .inr (2, [.ref q1, .ref q2, .ref q3, .ref q4, .ref q5, .ref q6, .ref q7, .int (nI n), .int (nI h), .int (th), .int (tt)])), (q1, .inl (cI, 6, .inl (fk))), (q2, .inl (cI, 6, .inl (fs))), (q3, .inl (cI, 6, .inl (fn))), (q4, .inl (cZ, 6, .inl (fi))), (q5, .inl (cI, 8, .inl (fc))), (q6, .inl (cI, 8, .inl (fw))), (q7, .inl (cI, 8, .inl (ft))), (w0, .inr (0, [.long (lN sx)]))] s.heap := hP
  refine lv_aload_n hx hb dX3_beginAnew_0 rfl (lv_at hl 0 rfl) ?_
  refine va_get (D := (dC, dI)) (ci := 2) (v := .ref q3) (C := RX3) (T := TX3) (N := 11) hx hb hts inX3 hown hK hP 0 rfl rfl 2 (by decide) lf18 (fun _ h9 => h9) rfl dX3_beginAnew_1 ?_
  refine lv_iconst (v := nI 0) hx hb dX3_beginAnew_4 (by decide) ?_
  refine lv_aload_n hx hb dX3_beginAnew_5 rfl (lv_at hl 1 rfl) ?_
  refine lv_bipush (v := nI 12) hx hb dX3_beginAnew_6 (by decide) ?_
  have hPc := hP.sub (ws' := [(w0, .inr (0, [.long (lN sx)]))]) [8] rfl
  have hDc := hD.sub (ws' := [(w0, .inr (0, [.long (lN sx)]))]) [8] (by decide) rfl
  refine callWi (wr := [(q0, .inr (2, [.ref q1, .ref q2, .ref q3, .ref q4, .ref q5, .ref q6, .ref q7, .int (nI n), .int (nI h), .int (th), .int (tt)])), (q1, .inl (cI, 6, .inl (fk))), (q2, .inl (cI, 6, .inl (fs))), (q3, .inl (cI, 6, .inl (fn))), (q4, .inl (cZ, 6, .inl (fi))), (q5, .inl (cI, 8, .inl (fc))), (q6, .inl (cI, 8, .inl (fw))), (q7, .inl (cI, 8, .inl (ft)))]) (w1 := [(w0, .inr (0, [.long (lN (nx sx))]))]) (va_runV (As := [.int (nI 12)]) (rest := [.int (nI 0), .ref q3]) ⟨hx, hb, hml, hown, hts⟩ (k_X0_next l dC dI cI cZ w0 _ (sx) (12) (by first | omega | with_reducible assumption | (simp; omega)) (by first | omega | with_reducible assumption | (simp; omega)) (by first | omega | with_reducible assumption | (simp; omega))) (cwV 1 hts gX3_beginAnew_X0_next rfl rfl rfl (by decide +kernel) ⟨Nat.le_of_ble_eq_true rfl, Nat.le_of_ble_eq_true rfl⟩) (preWV (q := (RX0, TX0, 1)) (ci := 0) hK hPc hDc rfl rfl) rfl rfl hl.1 rfl (lv_room (Nat.le_of_ble_eq_true rfl)) dX3_beginAnew_8 ⟨Nat.zero_le _, Nat.zero_le _⟩) hP hD hS hA [8] [0, 1, 2, 3, 4, 5, 6, 7] rfl rfl (by decide) (by decide) (fun H locs hP hD hS => ?_)
  have hP : va_P (dC, dI) vwCl [(q0, .inr (2, [.ref q1, .ref q2, .ref q3, .ref q4, .ref q5, .ref q6, .ref q7, .int (nI n), .int (nI h), .int (th), .int (tt)])), (q1, .inl (cI, 6, .inl (fk))), (q2, .inl (cI, 6, .inl (fs))), (q3, .inl (cI, 6, .inl (fn))), (q4, .inl (cZ, 6, .inl (fi))), (q5, .inl (cI, 8, .inl (fc))), (q6, .inl (cI, 8, .inl (fw))), (q7, .inl (cI, 8, .inl (ft))), (w0, .inr (0, [.long (lN (nx sx))]))] H := hP
  have hD : va_D A [(q0, .inr (2, [.ref q1, .ref q2, .ref q3, .ref q4, .ref q5, .ref q6, .ref q7, .int (nI n), .int (nI h), .int (th), .int (tt)])), (q1, .inl (cI, 6, .inl (fk))), (q2, .inl (cI, 6, .inl (fs))), (q3, .inl (cI, 6, .inl (fn))), (q4, .inl (cZ, 6, .inl (fi))), (q5, .inl (cI, 8, .inl (fc))), (q6, .inl (cI, 8, .inl (fw))), (q7, .inl (cI, 8, .inl (ft))), (w0, .inr (0, [.long (lN (nx sx))]))] := hD
  refine w_iast (k := 0) hx hb hK hP hD hS 3 0 rfl rfl (by omega) (by decide) dX3_beginAnew_11 (fun H locs hP hD hS => ?_)
  have hP : va_P (dC, dI) vwCl [(q0, .inr (2, [.ref q1, .ref q2, .ref q3, .ref q4, .ref q5, .ref q6, .ref q7, .int (nI n), .int (nI h), .int (th), .int (tt)])), (q1, .inl (cI, 6, .inl (fk))), (q2, .inl (cI, 6, .inl (fs))), (q3, .inl (cI, 6, .inl (upd fn 0 (nI (nx sx / 65536 % 12))))), (q4, .inl (cZ, 6, .inl (fi))), (q5, .inl (cI, 8, .inl (fc))), (q6, .inl (cI, 8, .inl (fw))), (q7, .inl (cI, 8, .inl (ft))), (w0, .inr (0, [.long (lN (nx sx))]))] H := hP
  have hD : va_D A [(q0, .inr (2, [.ref q1, .ref q2, .ref q3, .ref q4, .ref q5, .ref q6, .ref q7, .int (nI n), .int (nI h), .int (th), .int (tt)])), (q1, .inl (cI, 6, .inl (fk))), (q2, .inl (cI, 6, .inl (fs))), (q3, .inl (cI, 6, .inl (upd fn 0 (nI (nx sx / 65536 % 12))))), (q4, .inl (cZ, 6, .inl (fi))), (q5, .inl (cI, 8, .inl (fc))), (q6, .inl (cI, 8, .inl (fw))), (q7, .inl (cI, 8, .inl (ft))), (w0, .inr (0, [.long (lN (nx sx))]))] := hD
  refine lv_aload_n hx hb dX3_beginAnew_12 rfl (lv_at hl 1 rfl) ?_
  refine lv_aload_n hx hb dX3_beginAnew_13 rfl (lv_at hl 0 rfl) ?_
  refine va_get (D := (dC, dI)) (ci := 2) (v := .int (nI n)) (C := RX3) (T := TX3) (N := 11) hx hb hts inX3 hown hK hP 0 rfl rfl 7 (by decide) lf34 (fun _ h9 => h9) rfl dX3_beginAnew_14 ?_
  refine lv_iconst (v := nI 1) hx hb dX3_beginAnew_17 (by decide) ?_
  refine w_addN hx hb dX3_beginAnew_18 ?_
  have hPc := hP.sub (ws' := [(w0, .inr (0, [.long (lN (nx sx))]))]) [8] rfl
  have hDc := hD.sub (ws' := [(w0, .inr (0, [.long (lN (nx sx))]))]) [8] (by decide) rfl
  refine callWi (wr := [(q0, .inr (2, [.ref q1, .ref q2, .ref q3, .ref q4, .ref q5, .ref q6, .ref q7, .int (nI n), .int (nI h), .int (th), .int (tt)])), (q1, .inl (cI, 6, .inl (fk))), (q2, .inl (cI, 6, .inl (fs))), (q3, .inl (cI, 6, .inl (upd fn 0 (nI (nx sx / 65536 % 12))))), (q4, .inl (cZ, 6, .inl (fi))), (q5, .inl (cI, 8, .inl (fc))), (q6, .inl (cI, 8, .inl (fw))), (q7, .inl (cI, 8, .inl (ft)))]) (w1 := [(w0, .inr (0, [.long (lN (nx (nx sx)))]))]) (va_runV (As := [.int (nI (n + 1))]) (rest := []) ⟨hx, hb, hml, hown, hts⟩ (k_X0_next l dC dI cI cZ w0 _ (nx sx) (n + 1) (nx_lt) (by first | omega | with_reducible assumption | (simp; omega)) (by first | omega | with_reducible assumption | (simp; omega))) (cwV 1 hts gX3_beginAnew_X0_next rfl rfl rfl (by decide +kernel) ⟨Nat.le_of_ble_eq_true rfl, Nat.le_of_ble_eq_true rfl⟩) (preWV (q := (RX0, TX0, 1)) (ci := 0) hK hPc hDc rfl rfl) rfl rfl hl.1 rfl (lv_room (Nat.le_of_ble_eq_true rfl)) dX3_beginAnew_19 ⟨Nat.zero_le _, Nat.zero_le _⟩) hP hD hS hA [8] [0, 1, 2, 3, 4, 5, 6, 7] rfl rfl (by decide) (by decide) (fun H locs hP hD hS => ?_)
  have hP : va_P (dC, dI) vwCl [(q0, .inr (2, [.ref q1, .ref q2, .ref q3, .ref q4, .ref q5, .ref q6, .ref q7, .int (nI n), .int (nI h), .int (th), .int (tt)])), (q1, .inl (cI, 6, .inl (fk))), (q2, .inl (cI, 6, .inl (fs))), (q3, .inl (cI, 6, .inl (upd fn 0 (nI (nx sx / 65536 % 12))))), (q4, .inl (cZ, 6, .inl (fi))), (q5, .inl (cI, 8, .inl (fc))), (q6, .inl (cI, 8, .inl (fw))), (q7, .inl (cI, 8, .inl (ft))), (w0, .inr (0, [.long (lN (nx (nx sx)))]))] H := hP
  have hD : va_D A [(q0, .inr (2, [.ref q1, .ref q2, .ref q3, .ref q4, .ref q5, .ref q6, .ref q7, .int (nI n), .int (nI h), .int (th), .int (tt)])), (q1, .inl (cI, 6, .inl (fk))), (q2, .inl (cI, 6, .inl (fs))), (q3, .inl (cI, 6, .inl (upd fn 0 (nI (nx sx / 65536 % 12))))), (q4, .inl (cZ, 6, .inl (fi))), (q5, .inl (cI, 8, .inl (fc))), (q6, .inl (cI, 8, .inl (fw))), (q7, .inl (cI, 8, .inl (ft))), (w0, .inr (0, [.long (lN (nx (nx sx)))]))] := hD
  refine lv_istore_n (lv' := [(2, .int (nI (nx (nx sx) / 65536 % (n + 1)))), (0, .ref q0), (1, .ref w0)]) hx hb dX3_beginAnew_22 rfl hl (by decide) rfl (fun ls hl => ?_)
  refine lv_iconst (v := nI 0) hx hb dX3_beginAnew_23 (by decide) ?_
  refine lv_istore_n (lv' := [(3, .int (nI 0)), (2, .int (nI (nx (nx sx) / 65536 % (n + 1)))), (0, .ref q0), (1, .ref w0)]) hx hb dX3_beginAnew_24 rfl hl (by decide) rfl (fun ls hl => ?_)
  have lp25 : ∀ (w : Nat) (k : Nat), n - k < w → k ≤ n → ∀ (H : Heap) (locs : List Loc), va_P (dC, dI) vwCl [(q0, .inr (2, [.ref q1, .ref q2, .ref q3, .ref q4, .ref q5, .ref q6, .ref q7, .int (nI n), .int (nI h), .int (th), .int (tt)])), (q1, .inl (cI, 6, .inl (fk))), (q2, .inl (cI, 6, .inl (fs))), (q3, .inl (cI, 6, .inl (upd fn 0 (nI (nx sx / 65536 % 12))))), (q4, .inl (cZ, 6, .inl (ilF (nx (nx sx) / 65536 % (n + 1)) k fi))), (q5, .inl (cI, 8, .inl (fc))), (q6, .inl (cI, 8, .inl (fw))), (q7, .inl (cI, 8, .inl (ft))), (w0, .inr (0, [.long (lN (nx (nx sx)))]))] H → va_D A [(q0, .inr (2, [.ref q1, .ref q2, .ref q3, .ref q4, .ref q5, .ref q6, .ref q7, .int (nI n), .int (nI h), .int (th), .int (tt)])), (q1, .inl (cI, 6, .inl (fk))), (q2, .inl (cI, 6, .inl (fs))), (q3, .inl (cI, 6, .inl (upd fn 0 (nI (nx sx / 65536 % 12))))), (q4, .inl (cZ, 6, .inl (ilF (nx (nx sx) / 65536 % (n + 1)) k fi))), (q5, .inl (cI, 8, .inl (fc))), (q6, .inl (cI, 8, .inl (fw))), (q7, .inl (cI, 8, .inl (ft))), (w0, .inr (0, [.long (lN (nx (nx sx)))]))] → va_S A s.heap H locs → ∀ (ls : Array Slot), lv_has ls 4 [(0, .ref q0), (1, .ref w0), (2, .int (nI (nx (nx sx) / 65536 % (n + 1)))), (3, .int (nI k))] → W p l e (headSpec wsX3_beginAnew ({ frames := 1, cells := 0, slots := 0, locals := 21 })).room s m ([.ref q0, .ref w0] : List Value).toArray below meth co H locs 0 0 (MQ below (QWv (dC, dI) [(q0, .inr (2, [.ref q1, .ref q2, .ref q3, .ref q4, .ref q5, .ref q6, .ref q7, .int (nI n), .int (nI h), .int (th), .int (tt)])), (q1, .inl (cI, 6, .inl (fk))), (q2, .inl (cI, 6, .inl (fs))), (q3, .inl (cI, 6, .inl (fn))), (q4, .inl (cZ, 6, .inl (fi))), (q5, .inl (cI, 8, .inl (fc))), (q6, .inl (cI, 8, .inl (fw))), (q7, .inl (cI, 8, .inl (ft))), (w0, .inr (0, [.long (lN sx)]))] [(q0, .inr (2, [.ref q1, .ref q2, .ref q3, .ref q4, .ref q5, .ref q6, .ref q7, .int (nI n), .int (nI h), .int (th), .int (tt)])), (q1, .inl (cI, 6, .inl (fk))), (q2, .inl (cI, 6, .inl (fs))), (q3, .inl (cI, 6, .inl ((upd fn 0 (nI (nx sx / 65536 % 12)))))), (q4, .inl (cZ, 6, .inl ((ilF (nx (nx sx) / 65536 % (n + 1)) n fi)))), (q5, .inl (cI, 8, .inl (fc))), (q6, .inl (cI, 8, .inl (fw))), (q7, .inl (cI, 8, .inl (ft))), (w0, .inr (0, [.long (lN ((nx (nx sx))))]))] s.heap.size) ([.ref q0, .ref w0] : List Value).toArray s 0 0 A) (F0 m 25 ls []) := by
    intro w
    induction w with
    | zero => intro k h0; exact absurd h0 (Nat.not_lt_zero _)
    | succ w ih25 =>
      intro k hm_1 hk H locs hP hD hS ls hl
      refine lv_iload_n hx hb dX3_beginAnew_25 rfl (lv_at hl 3 rfl) ?_
      refine lv_aload_n hx hb dX3_beginAnew_26 rfl (lv_at hl 0 rfl) ?_
      refine va_get (D := (dC, dI)) (ci := 2) (v := .int (nI n)) (C := RX3) (T := TX3) (N := 11) hx hb hts inX3 hown hK hP 0 rfl rfl 7 (by decide) lf34 (fun _ h9 => h9) rfl dX3_beginAnew_27 ?_
      refine w_ci_ge (tgt := 55) hx hb (by omega) (by omega) dX3_beginAnew_30 (by decide) (fun c_2 => ?_) (fun c_2 => ?_)
      · skip
        have hP7 := hP.sub (ws' := [(q0, .inr (2, [.ref q1, .ref q2, .ref q3, .ref q4, .ref q5, .ref q6, .ref q7, .int (nI n), .int (nI h), .int (th), .int (tt)])), (q1, .inl (cI, 6, .inl (fk))), (q2, .inl (cI, 6, .inl (fs))), (q3, .inl (cI, 6, .inl (upd fn 0 (nI (nx sx / 65536 % 12))))), (q4, .inl (cZ, 6, .inl (ilF (nx (nx sx) / 65536 % (n + 1)) k fi))), (q5, .inl (cI, 8, .inl (fc))), (q6, .inl (cI, 8, .inl (fw))), (q7, .inl (cI, 8, .inl (ft))), (w0, .inr (0, [.long (lN (nx (nx sx)))]))]) [0, 1, 2, 3, 4, 5, 6, 7, 8] rfl
        have hD7 := hD.sub (ws' := [(q0, .inr (2, [.ref q1, .ref q2, .ref q3, .ref q4, .ref q5, .ref q6, .ref q7, .int (nI n), .int (nI h), .int (th), .int (tt)])), (q1, .inl (cI, 6, .inl (fk))), (q2, .inl (cI, 6, .inl (fs))), (q3, .inl (cI, 6, .inl (upd fn 0 (nI (nx sx / 65536 % 12))))), (q4, .inl (cZ, 6, .inl (ilF (nx (nx sx) / 65536 % (n + 1)) k fi))), (q5, .inl (cI, 8, .inl (fc))), (q6, .inl (cI, 8, .inl (fw))), (q7, .inl (cI, 8, .inl (ft))), (w0, .inr (0, [.long (lN (nx (nx sx)))]))]) [0, 1, 2, 3, 4, 5, 6, 7, 8] (by decide) rfl
        have he_3 : (ilF (nx (nx sx) / 65536 % (n + 1)) k fi : Nat → Int32) = (ilF (nx (nx sx) / 65536 % (n + 1)) n fi) := by rw [show k = n by omega]
        have heq : ([(q0, .inr (2, [.ref q1, .ref q2, .ref q3, .ref q4, .ref q5, .ref q6, .ref q7, .int (nI n), .int (nI h), .int (th), .int (tt)])), (q1, .inl (cI, 6, .inl (fk))), (q2, .inl (cI, 6, .inl (fs))), (q3, .inl (cI, 6, .inl (upd fn 0 (nI (nx sx / 65536 % 12))))), (q4, .inl (cZ, 6, .inl (ilF (nx (nx sx) / 65536 % (n + 1)) k fi))), (q5, .inl (cI, 8, .inl (fc))), (q6, .inl (cI, 8, .inl (fw))), (q7, .inl (cI, 8, .inl (ft))), (w0, .inr (0, [.long (lN (nx (nx sx)))]))] : va_W) = [(q0, .inr (2, [.ref q1, .ref q2, .ref q3, .ref q4, .ref q5, .ref q6, .ref q7, .int (nI n), .int (nI h), .int (th), .int (tt)])), (q1, .inl (cI, 6, .inl (fk))), (q2, .inl (cI, 6, .inl (fs))), (q3, .inl (cI, 6, .inl ((upd fn 0 (nI (nx sx / 65536 % 12)))))), (q4, .inl (cZ, 6, .inl ((ilF (nx (nx sx) / 65536 % (n + 1)) n fi)))), (q5, .inl (cI, 8, .inl (fc))), (q6, .inl (cI, 8, .inl (fw))), (q7, .inl (cI, 8, .inl (ft))), (w0, .inr (0, [.long (lN ((nx (nx sx))))]))] := by rw [← he_3]
        have hP7 := w_Pc hP7 heq
        have hD7 := w_Dc hD7 heq
        exact retWv hx hb hr hlocks hP7 hD7 hS hAe dX3_beginAnew_55
      · skip
        refine lv_aload_n hx hb dX3_beginAnew_33 rfl (lv_at hl 0 rfl) ?_
        refine va_get (D := (dC, dI)) (ci := 2) (v := .ref q4) (C := RX3) (T := TX3) (N := 11) hx hb hts inX3 hown hK hP 0 rfl rfl 3 (by decide) lf21 (fun _ h9 => h9) rfl dX3_beginAnew_34 ?_
        refine lv_iload_n hx hb dX3_beginAnew_37 rfl (lv_at hl 3 rfl) ?_
        refine lv_iload_n hx hb dX3_beginAnew_38 rfl (lv_at hl 3 rfl) ?_
        refine lv_iload_n hx hb dX3_beginAnew_39 rfl (lv_at hl 2 rfl) ?_
        have hq : nx (nx sx) / 65536 % (n + 1) < n + 1 := Nat.mod_lt _ (by omega)
        refine w_ci_ne (tgt := 47) hx hb (by omega) (by omega) dX3_beginAnew_40 (by decide) (fun c_4 => ?_) (fun c_4 => ?_)
        · skip
          refine lv_iconst (v := nI 0) hx hb dX3_beginAnew_47 (by decide) ?_
          refine w_zast (k := k) hx hb hK hP hD hS 4 1 rfl rfl (by omega) (by decide) rfl dX3_beginAnew_48 (fun H locs hP hD hS => ?_)
          have hP : va_P (dC, dI) vwCl [(q0, .inr (2, [.ref q1, .ref q2, .ref q3, .ref q4, .ref q5, .ref q6, .ref q7, .int (nI n), .int (nI h), .int (th), .int (tt)])), (q1, .inl (cI, 6, .inl (fk))), (q2, .inl (cI, 6, .inl (fs))), (q3, .inl (cI, 6, .inl (upd fn 0 (nI (nx sx / 65536 % 12))))), (q4, .inl (cZ, 6, .inl (upd (ilF (nx (nx sx) / 65536 % (n + 1)) k fi) k (nI 0)))), (q5, .inl (cI, 8, .inl (fc))), (q6, .inl (cI, 8, .inl (fw))), (q7, .inl (cI, 8, .inl (ft))), (w0, .inr (0, [.long (lN (nx (nx sx)))]))] H := hP
          have hD : va_D A [(q0, .inr (2, [.ref q1, .ref q2, .ref q3, .ref q4, .ref q5, .ref q6, .ref q7, .int (nI n), .int (nI h), .int (th), .int (tt)])), (q1, .inl (cI, 6, .inl (fk))), (q2, .inl (cI, 6, .inl (fs))), (q3, .inl (cI, 6, .inl (upd fn 0 (nI (nx sx / 65536 % 12))))), (q4, .inl (cZ, 6, .inl (upd (ilF (nx (nx sx) / 65536 % (n + 1)) k fi) k (nI 0)))), (q5, .inl (cI, 8, .inl (fc))), (q6, .inl (cI, 8, .inl (fw))), (q7, .inl (cI, 8, .inl (ft))), (w0, .inr (0, [.long (lN (nx (nx sx)))]))] := hD
          refine lv_iinc (v := nI (k + 1)) (lv' := [(3, .int (nI (k + 1))), (0, .ref q0), (1, .ref w0), (2, .int (nI (nx (nx sx) / 65536 % (n + 1))))]) hx hb dX3_beginAnew_49 hl (k := 3) rfl w_inc1 (by decide) rfl (fun ls hl => ?_)
          refine lv_goto (tgt := 25) hx hb dX3_beginAnew_52 (by decide) ?_
          have hP7 := hP.sub (ws' := [(q0, .inr (2, [.ref q1, .ref q2, .ref q3, .ref q4, .ref q5, .ref q6, .ref q7, .int (nI n), .int (nI h), .int (th), .int (tt)])), (q1, .inl (cI, 6, .inl (fk))), (q2, .inl (cI, 6, .inl (fs))), (q3, .inl (cI, 6, .inl (upd fn 0 (nI (nx sx / 65536 % 12))))), (q4, .inl (cZ, 6, .inl (upd (ilF (nx (nx sx) / 65536 % (n + 1)) k fi) k (nI 0)))), (q5, .inl (cI, 8, .inl (fc))), (q6, .inl (cI, 8, .inl (fw))), (q7, .inl (cI, 8, .inl (ft))), (w0, .inr (0, [.long (lN (nx (nx sx)))]))]) [0, 1, 2, 3, 4, 5, 6, 7, 8] rfl
          have hD7 := hD.sub (ws' := [(q0, .inr (2, [.ref q1, .ref q2, .ref q3, .ref q4, .ref q5, .ref q6, .ref q7, .int (nI n), .int (nI h), .int (th), .int (tt)])), (q1, .inl (cI, 6, .inl (fk))), (q2, .inl (cI, 6, .inl (fs))), (q3, .inl (cI, 6, .inl (upd fn 0 (nI (nx sx / 65536 % 12))))), (q4, .inl (cZ, 6, .inl (upd (ilF (nx (nx sx) / 65536 % (n + 1)) k fi) k (nI 0)))), (q5, .inl (cI, 8, .inl (fc))), (q6, .inl (cI, 8, .inl (fw))), (q7, .inl (cI, 8, .inl (ft))), (w0, .inr (0, [.long (lN (nx (nx sx)))]))]) [0, 1, 2, 3, 4, 5, 6, 7, 8] (by decide) rfl
          have he_5 : (upd (ilF (nx (nx sx) / 65536 % (n + 1)) k fi) k (nI 0) : Nat → Int32) = ilF (nx (nx sx) / 65536 % (n + 1)) (k + 1) fi := by first | exact ilF_t c_4 | exact ilF_f c_4
          have heq : ([(q0, .inr (2, [.ref q1, .ref q2, .ref q3, .ref q4, .ref q5, .ref q6, .ref q7, .int (nI n), .int (nI h), .int (th), .int (tt)])), (q1, .inl (cI, 6, .inl (fk))), (q2, .inl (cI, 6, .inl (fs))), (q3, .inl (cI, 6, .inl (upd fn 0 (nI (nx sx / 65536 % 12))))), (q4, .inl (cZ, 6, .inl (upd (ilF (nx (nx sx) / 65536 % (n + 1)) k fi) k (nI 0)))), (q5, .inl (cI, 8, .inl (fc))), (q6, .inl (cI, 8, .inl (fw))), (q7, .inl (cI, 8, .inl (ft))), (w0, .inr (0, [.long (lN (nx (nx sx)))]))] : va_W) = [(q0, .inr (2, [.ref q1, .ref q2, .ref q3, .ref q4, .ref q5, .ref q6, .ref q7, .int (nI n), .int (nI h), .int (th), .int (tt)])), (q1, .inl (cI, 6, .inl (fk))), (q2, .inl (cI, 6, .inl (fs))), (q3, .inl (cI, 6, .inl (upd fn 0 (nI (nx sx / 65536 % 12))))), (q4, .inl (cZ, 6, .inl (ilF (nx (nx sx) / 65536 % (n + 1)) (k + 1) fi))), (q5, .inl (cI, 8, .inl (fc))), (q6, .inl (cI, 8, .inl (fw))), (q7, .inl (cI, 8, .inl (ft))), (w0, .inr (0, [.long (lN (nx (nx sx)))]))] := by rw [← he_5]
          have hP7 := w_Pc hP7 heq
          have hD7 := w_Dc hD7 heq
          exact ih25 (k + 1) (by omega) (by first | omega | with_reducible assumption | (first | with_reducible rfl | exact (if_pos (c_4)).symm | exact (if_neg (c_4)).symm | (simp [hn1, hn6, hsx, hk, c_2, c_4]; done) | omega | rfl)) _ _ hP7 hD7 hS ls (lv_sub hl [1, 2, 3, 0] rfl)
        · skip
          refine lv_iconst (v := nI 1) hx hb dX3_beginAnew_43 (by decide) ?_
          refine lv_goto (tgt := 48) hx hb dX3_beginAnew_44 (by decide) ?_
          refine w_zast (k := k) hx hb hK hP hD hS 4 1 rfl rfl (by omega) (by decide) rfl dX3_beginAnew_48 (fun H locs hP hD hS => ?_)
          have hP : va_P (dC, dI) vwCl [(q0, .inr (2, [.ref q1, .ref q2, .ref q3, .ref q4, .ref q5, .ref q6, .ref q7, .int (nI n), .int (nI h), .int (th), .int (tt)])), (q1, .inl (cI, 6, .inl (fk))), (q2, .inl (cI, 6, .inl (fs))), (q3, .inl (cI, 6, .inl (upd fn 0 (nI (nx sx / 65536 % 12))))), (q4, .inl (cZ, 6, .inl (upd (ilF (nx (nx sx) / 65536 % (n + 1)) k fi) k (nI 1)))), (q5, .inl (cI, 8, .inl (fc))), (q6, .inl (cI, 8, .inl (fw))), (q7, .inl (cI, 8, .inl (ft))), (w0, .inr (0, [.long (lN (nx (nx sx)))]))] H := hP
          have hD : va_D A [(q0, .inr (2, [.ref q1, .ref q2, .ref q3, .ref q4, .ref q5, .ref q6, .ref q7, .int (nI n), .int (nI h), .int (th), .int (tt)])), (q1, .inl (cI, 6, .inl (fk))), (q2, .inl (cI, 6, .inl (fs))), (q3, .inl (cI, 6, .inl (upd fn 0 (nI (nx sx / 65536 % 12))))), (q4, .inl (cZ, 6, .inl (upd (ilF (nx (nx sx) / 65536 % (n + 1)) k fi) k (nI 1)))), (q5, .inl (cI, 8, .inl (fc))), (q6, .inl (cI, 8, .inl (fw))), (q7, .inl (cI, 8, .inl (ft))), (w0, .inr (0, [.long (lN (nx (nx sx)))]))] := hD
          refine lv_iinc (v := nI (k + 1)) (lv' := [(3, .int (nI (k + 1))), (0, .ref q0), (1, .ref w0), (2, .int (nI (nx (nx sx) / 65536 % (n + 1))))]) hx hb dX3_beginAnew_49 hl (k := 3) rfl w_inc1 (by decide) rfl (fun ls hl => ?_)
          refine lv_goto (tgt := 25) hx hb dX3_beginAnew_52 (by decide) ?_
          have hP7 := hP.sub (ws' := [(q0, .inr (2, [.ref q1, .ref q2, .ref q3, .ref q4, .ref q5, .ref q6, .ref q7, .int (nI n), .int (nI h), .int (th), .int (tt)])), (q1, .inl (cI, 6, .inl (fk))), (q2, .inl (cI, 6, .inl (fs))), (q3, .inl (cI, 6, .inl (upd fn 0 (nI (nx sx / 65536 % 12))))), (q4, .inl (cZ, 6, .inl (upd (ilF (nx (nx sx) / 65536 % (n + 1)) k fi) k (nI 1)))), (q5, .inl (cI, 8, .inl (fc))), (q6, .inl (cI, 8, .inl (fw))), (q7, .inl (cI, 8, .inl (ft))), (w0, .inr (0, [.long (lN (nx (nx sx)))]))]) [0, 1, 2, 3, 4, 5, 6, 7, 8] rfl
          have hD7 := hD.sub (ws' := [(q0, .inr (2, [.ref q1, .ref q2, .ref q3, .ref q4, .ref q5, .ref q6, .ref q7, .int (nI n), .int (nI h), .int (th), .int (tt)])), (q1, .inl (cI, 6, .inl (fk))), (q2, .inl (cI, 6, .inl (fs))), (q3, .inl (cI, 6, .inl (upd fn 0 (nI (nx sx / 65536 % 12))))), (q4, .inl (cZ, 6, .inl (upd (ilF (nx (nx sx) / 65536 % (n + 1)) k fi) k (nI 1)))), (q5, .inl (cI, 8, .inl (fc))), (q6, .inl (cI, 8, .inl (fw))), (q7, .inl (cI, 8, .inl (ft))), (w0, .inr (0, [.long (lN (nx (nx sx)))]))]) [0, 1, 2, 3, 4, 5, 6, 7, 8] (by decide) rfl
          have he_6 : (upd (ilF (nx (nx sx) / 65536 % (n + 1)) k fi) k (nI 1) : Nat → Int32) = ilF (nx (nx sx) / 65536 % (n + 1)) (k + 1) fi := by first | exact ilF_t c_4 | exact ilF_f c_4
          have heq : ([(q0, .inr (2, [.ref q1, .ref q2, .ref q3, .ref q4, .ref q5, .ref q6, .ref q7, .int (nI n), .int (nI h), .int (th), .int (tt)])), (q1, .inl (cI, 6, .inl (fk))), (q2, .inl (cI, 6, .inl (fs))), (q3, .inl (cI, 6, .inl (upd fn 0 (nI (nx sx / 65536 % 12))))), (q4, .inl (cZ, 6, .inl (upd (ilF (nx (nx sx) / 65536 % (n + 1)) k fi) k (nI 1)))), (q5, .inl (cI, 8, .inl (fc))), (q6, .inl (cI, 8, .inl (fw))), (q7, .inl (cI, 8, .inl (ft))), (w0, .inr (0, [.long (lN (nx (nx sx)))]))] : va_W) = [(q0, .inr (2, [.ref q1, .ref q2, .ref q3, .ref q4, .ref q5, .ref q6, .ref q7, .int (nI n), .int (nI h), .int (th), .int (tt)])), (q1, .inl (cI, 6, .inl (fk))), (q2, .inl (cI, 6, .inl (fs))), (q3, .inl (cI, 6, .inl (upd fn 0 (nI (nx sx / 65536 % 12))))), (q4, .inl (cZ, 6, .inl (ilF (nx (nx sx) / 65536 % (n + 1)) (k + 1) fi))), (q5, .inl (cI, 8, .inl (fc))), (q6, .inl (cI, 8, .inl (fw))), (q7, .inl (cI, 8, .inl (ft))), (w0, .inr (0, [.long (lN (nx (nx sx)))]))] := by rw [← he_6]
          have hP7 := w_Pc hP7 heq
          have hD7 := w_Dc hD7 heq
          exact ih25 (k + 1) (by omega) (by first | omega | with_reducible assumption | (first | with_reducible rfl | exact (if_pos (c_4)).symm | exact (if_neg (c_4)).symm | (simp [hn1, hn6, hsx, hk, c_2, c_4]; done) | omega | rfl)) _ _ hP7 hD7 hS ls (lv_sub hl [1, 2, 3, 0] rfl)
  have hP7 := hP.sub (ws' := [(q0, .inr (2, [.ref q1, .ref q2, .ref q3, .ref q4, .ref q5, .ref q6, .ref q7, .int (nI n), .int (nI h), .int (th), .int (tt)])), (q1, .inl (cI, 6, .inl (fk))), (q2, .inl (cI, 6, .inl (fs))), (q3, .inl (cI, 6, .inl (upd fn 0 (nI (nx sx / 65536 % 12))))), (q4, .inl (cZ, 6, .inl (fi))), (q5, .inl (cI, 8, .inl (fc))), (q6, .inl (cI, 8, .inl (fw))), (q7, .inl (cI, 8, .inl (ft))), (w0, .inr (0, [.long (lN (nx (nx sx)))]))]) [0, 1, 2, 3, 4, 5, 6, 7, 8] rfl
  have hD7 := hD.sub (ws' := [(q0, .inr (2, [.ref q1, .ref q2, .ref q3, .ref q4, .ref q5, .ref q6, .ref q7, .int (nI n), .int (nI h), .int (th), .int (tt)])), (q1, .inl (cI, 6, .inl (fk))), (q2, .inl (cI, 6, .inl (fs))), (q3, .inl (cI, 6, .inl (upd fn 0 (nI (nx sx / 65536 % 12))))), (q4, .inl (cZ, 6, .inl (fi))), (q5, .inl (cI, 8, .inl (fc))), (q6, .inl (cI, 8, .inl (fw))), (q7, .inl (cI, 8, .inl (ft))), (w0, .inr (0, [.long (lN (nx (nx sx)))]))]) [0, 1, 2, 3, 4, 5, 6, 7, 8] (by decide) rfl
  have he_7 : (fi : Nat → Int32) = ilF (nx (nx sx) / 65536 % (n + 1)) 0 fi := by exact ilF_0.symm
  have heq : ([(q0, .inr (2, [.ref q1, .ref q2, .ref q3, .ref q4, .ref q5, .ref q6, .ref q7, .int (nI n), .int (nI h), .int (th), .int (tt)])), (q1, .inl (cI, 6, .inl (fk))), (q2, .inl (cI, 6, .inl (fs))), (q3, .inl (cI, 6, .inl (upd fn 0 (nI (nx sx / 65536 % 12))))), (q4, .inl (cZ, 6, .inl (fi))), (q5, .inl (cI, 8, .inl (fc))), (q6, .inl (cI, 8, .inl (fw))), (q7, .inl (cI, 8, .inl (ft))), (w0, .inr (0, [.long (lN (nx (nx sx)))]))] : va_W) = [(q0, .inr (2, [.ref q1, .ref q2, .ref q3, .ref q4, .ref q5, .ref q6, .ref q7, .int (nI n), .int (nI h), .int (th), .int (tt)])), (q1, .inl (cI, 6, .inl (fk))), (q2, .inl (cI, 6, .inl (fs))), (q3, .inl (cI, 6, .inl (upd fn 0 (nI (nx sx / 65536 % 12))))), (q4, .inl (cZ, 6, .inl (ilF (nx (nx sx) / 65536 % (n + 1)) 0 fi))), (q5, .inl (cI, 8, .inl (fc))), (q6, .inl (cI, 8, .inl (fw))), (q7, .inl (cI, 8, .inl (ft))), (w0, .inr (0, [.long (lN (nx (nx sx)))]))] := by rw [← he_7]
  have hP7 := w_Pc hP7 heq
  have hD7 := w_Dc hD7 heq
  exact lp25 (n - 0 + 1) (0) (Nat.lt_succ_self _) (by first | omega | with_reducible assumption | (first | with_reducible rfl | exact (if_pos (hsx)).symm | exact (if_neg (hsx)).symm | (simp [hn1, hn6, hsx]; done) | omega | rfl)) _ _ hP7 hD7 hS ls (lv_sub hl [2, 3, 1, 0] rfl)
end
section
set_option maxHeartbeats 4000000 in
set_option maxRecDepth 100000 in
theorem k_X3_copyFrom (l : Launch) (dC : Nat → ClassId) (dI : Nat → Nat → Nat) (cI cZ : ClassId) (q0 q1 q2 q3 q4 q5 q6 q7 oq0 oq1 oq2 oq3 oq4 oq5 oq6 oq7 : Nat) (sz : Nat) (fk fs fn fi fc fw ft fk_o fs_o fn_o fi_o fc_o fw_o ft_o : Nat → Int32) (n h n_o h_o : Nat) (th tt th_o tt_o : Int32) (hfi : ∀ i, fi_o i = nI 0 ∨ fi_o i = nI 1) : Met l yX3_copyFrom wsX3_copyFrom ({ frames := 1, cells := 0, slots := 0, locals := 40 }) (va_Pc [.ref q0, .ref oq0] (PW (dC, dI) cI cZ sz [(q0, .inr (2, [.ref q1, .ref q2, .ref q3, .ref q4, .ref q5, .ref q6, .ref q7, .int (nI n), .int (nI h), .int (th), .int (tt)])), (q1, .inl (cI, 6, .inl (fk))), (q2, .inl (cI, 6, .inl (fs))), (q3, .inl (cI, 6, .inl (fn))), (q4, .inl (cZ, 6, .inl (fi))), (q5, .inl (cI, 8, .inl (fc))), (q6, .inl (cI, 8, .inl (fw))), (q7, .inl (cI, 8, .inl (ft))), (oq0, .inr (2, [.ref oq1, .ref oq2, .ref oq3, .ref oq4, .ref oq5, .ref oq6, .ref oq7, .int (nI n_o), .int (nI h_o), .int (th_o), .int (tt_o)])), (oq1, .inl (cI, 6, .inl (fk_o))), (oq2, .inl (cI, 6, .inl (fs_o))), (oq3, .inl (cI, 6, .inl (fn_o))), (oq4, .inl (cZ, 6, .inl (fi_o))), (oq5, .inl (cI, 8, .inl (fc_o))), (oq6, .inl (cI, 8, .inl (fw_o))), (oq7, .inl (cI, 8, .inl (ft_o)))])) (QWv (dC, dI) [(q0, .inr (2, [.ref q1, .ref q2, .ref q3, .ref q4, .ref q5, .ref q6, .ref q7, .int (nI n), .int (nI h), .int (th), .int (tt)])), (q1, .inl (cI, 6, .inl (fk))), (q2, .inl (cI, 6, .inl (fs))), (q3, .inl (cI, 6, .inl (fn))), (q4, .inl (cZ, 6, .inl (fi))), (q5, .inl (cI, 8, .inl (fc))), (q6, .inl (cI, 8, .inl (fw))), (q7, .inl (cI, 8, .inl (ft))), (oq0, .inr (2, [.ref oq1, .ref oq2, .ref oq3, .ref oq4, .ref oq5, .ref oq6, .ref oq7, .int (nI n_o), .int (nI h_o), .int (th_o), .int (tt_o)])), (oq1, .inl (cI, 6, .inl (fk_o))), (oq2, .inl (cI, 6, .inl (fs_o))), (oq3, .inl (cI, 6, .inl (fn_o))), (oq4, .inl (cZ, 6, .inl (fi_o))), (oq5, .inl (cI, 8, .inl (fc_o))), (oq6, .inl (cI, 8, .inl (fw_o))), (oq7, .inl (cI, 8, .inl (ft_o)))] [(q0, .inr (2, [.ref q1, .ref q2, .ref q3, .ref q4, .ref q5, .ref q6, .ref q7, .int (nI n_o), .int (nI h_o), .int (th_o), .int (tt_o)])), (q1, .inl (cI, 6, .inl (fk_o))), (q2, .inl (cI, 6, .inl (fs_o))), (q3, .inl (cI, 6, .inl (fn_o))), (q4, .inl (cZ, 6, .inl (fi_o))), (q5, .inl (cI, 8, .inl (fc_o))), (q6, .inl (cI, 8, .inl (fw_o))), (q7, .inl (cI, 8, .inl (ft_o))), (oq0, .inr (2, [.ref oq1, .ref oq2, .ref oq3, .ref oq4, .ref oq5, .ref oq6, .ref oq7, .int (nI n_o), .int (nI h_o), .int (th_o), .int (tt_o)])), (oq1, .inl (cI, 6, .inl (fk_o))), (oq2, .inl (cI, 6, .inl (fs_o))), (oq3, .inl (cI, 6, .inl (fn_o))), (oq4, .inl (cZ, 6, .inl (fi_o))), (oq5, .inl (cI, 8, .inl (fc_o))), (oq6, .inl (cI, 8, .inl (fw_o))), (oq7, .inl (cI, 8, .inl (ft_o)))] sz) 0 0 (va_A [(q0, .inr (2, [.ref q1, .ref q2, .ref q3, .ref q4, .ref q5, .ref q6, .ref q7, .int (nI n), .int (nI h), .int (th), .int (tt)])), (q1, .inl (cI, 6, .inl (fk))), (q2, .inl (cI, 6, .inl (fs))), (q3, .inl (cI, 6, .inl (fn))), (q4, .inl (cZ, 6, .inl (fi))), (q5, .inl (cI, 8, .inl (fc))), (q6, .inl (cI, 8, .inl (fw))), (q7, .inl (cI, 8, .inl (ft))), (oq0, .inr (2, [.ref oq1, .ref oq2, .ref oq3, .ref oq4, .ref oq5, .ref oq6, .ref oq7, .int (nI n_o), .int (nI h_o), .int (th_o), .int (tt_o)])), (oq1, .inl (cI, 6, .inl (fk_o))), (oq2, .inl (cI, 6, .inl (fs_o))), (oq3, .inl (cI, 6, .inl (fn_o))), (oq4, .inl (cZ, 6, .inl (fi_o))), (oq5, .inl (cI, 8, .inl (fc_o))), (oq6, .inl (cI, 8, .inl (fw_o))), (oq7, .inl (cI, 8, .inl (ft_o)))] sz) := by
  refine Met.ofW (cc := cX3_copyFrom) (maxL := 2) (ret := none) (by decide) rfl ?_
  intro p e s m args below meth co s₁ B hml hv
  obtain ⟨rfl, hsz, hP, hK, hD0⟩ := hv
  have hx := B.exec
  have hb := B.bytes
  have hr := B.returns
  have hts := atoms_spec (ws := wsX3_copyFrom) B.pre
  have hown : s.vm.findClass RX3 = some m.cls := findClass_of_methodNamed B.named
  have hlocks := B.notSynchronized
  subst hsz
  have hD := hD0.self (sz := s.heap.size)
  generalize hAe : va_A [(q0, .inr (2, [.ref q1, .ref q2, .ref q3, .ref q4, .ref q5, .ref q6, .ref q7, .int (nI n), .int (nI h), .int (th), .int (tt)])), (q1, .inl (cI, 6, .inl (fk))), (q2, .inl (cI, 6, .inl (fs))), (q3, .inl (cI, 6, .inl (fn))), (q4, .inl (cZ, 6, .inl (fi))), (q5, .inl (cI, 8, .inl (fc))), (q6, .inl (cI, 8, .inl (fw))), (q7, .inl (cI, 8, .inl (ft))), (oq0, .inr (2, [.ref oq1, .ref oq2, .ref oq3, .ref oq4, .ref oq5, .ref oq6, .ref oq7, .int (nI n_o), .int (nI h_o), .int (th_o), .int (tt_o)])), (oq1, .inl (cI, 6, .inl (fk_o))), (oq2, .inl (cI, 6, .inl (fs_o))), (oq3, .inl (cI, 6, .inl (fn_o))), (oq4, .inl (cZ, 6, .inl (fi_o))), (oq5, .inl (cI, 8, .inl (fc_o))), (oq6, .inl (cI, 8, .inl (fw_o))), (oq7, .inl (cI, 8, .inl (ft_o)))] s.heap.size = A at hD
  have hA : ∀ q : Nat, s.heap.size ≤ q → A q := fun q h => by rw [← hAe]; exact Or.inr h
  have hS : va_S A s.heap s.heap [] := va_S.rf
  have inX3 : ∀ w ∈ u_ws RX3 TX3 11, w ∈ wsX3_copyFrom := by decide +kernel
  have lf11 := hts (.fieldLink RX3 11 "ThursdayRungs$School" "kinds" "[I") (by decide +kernel)
  have lf15 := hts (.fieldLink RX3 15 "ThursdayRungs$School" "slips" "[I") (by decide +kernel)
  have lf18 := hts (.fieldLink RX3 18 "ThursdayRungs$School" "known" "[I") (by decide +kernel)
  have lf21 := hts (.fieldLink RX3 21 "ThursdayRungs$School" "ill" "[Z") (by decide +kernel)
  have lf25 := hts (.fieldLink RX3 25 "ThursdayRungs$School" "heardChild" "[I") (by decide +kernel)
  have lf28 := hts (.fieldLink RX3 28 "ThursdayRungs$School" "heardKnew" "[I") (by decide +kernel)
  have lf31 := hts (.fieldLink RX3 31 "ThursdayRungs$School" "heardTaught" "[I") (by decide +kernel)
  have lf34 := hts (.fieldLink RX3 34 "ThursdayRungs$School" "size" "I") (by decide +kernel)
  have lf38 := hts (.fieldLink RX3 38 "ThursdayRungs$School" "heard" "I") (by decide +kernel)
  have lf41 := hts (.fieldLink RX3 41 "ThursdayRungs$School" "thursdays" "I") (by decide +kernel)
  have lf44 := hts (.fieldLink RX3 44 "ThursdayRungs$School" "timesTaught" "I") (by decide +kernel)
  have lk66 := hts (.methodLink RX3 66 arraycopyName) (by decide +kernel)
  have lnat := hts (.native arraycopyName) (by decide +kernel)
  have lst := hts (.static arraycopyName) (by decide +kernel)
  have lsy := hts (.initialized "java/lang/System") (by decide +kernel)
  have hl := lv_entry ([.ref q0, .ref oq0]) (n := 2) (Nat.le_of_ble_eq_true rfl)
  rw [lg_entry_eq]
  generalize (lg_sl ([.ref q0, .ref oq0]) ++ List.replicate (2 - (lg_sl ([.ref q0, .ref oq0])).length) Slot.unset).toArray = ls at hl ⊢
  have hl : lv_has ls 2 [(0, .ref q0), (1, .ref oq0)] := hl
  have hP : va_P (dC, dI) vwCl [(q0, .inr (2, [.ref q1, .ref q2, .ref q3, .ref q4, .ref q5, .ref q6, .ref q7, .int (nI n), .int (nI h), .int (th), .int (tt)])), (q1, .inl (cI, 6, .inl (fk))), (q2, .inl (cI, 6, .inl (fs))), (q3, .inl (cI, 6, .inl (fn))), (q4, .inl (cZ, 6, .inl (fi))), (q5, .inl (cI, 8, .inl (fc))), (q6, .inl (cI, 8, .inl (fw))), (q7, .inl (cI, 8, .inl (ft))), (oq0, .inr (2, [.ref oq1, .ref oq2, .ref oq3, .ref oq4, .ref oq5, .ref oq6, .ref oq7, .int (nI n_o), .int (nI h_o), .int (th_o), .int (tt_o)])), (oq1, .inl (cI, 6, .inl (fk_o))), (oq2, .inl (cI, 6, .inl (fs_o))), (oq3, .inl (cI, 6, .inl (fn_o))), (oq4, .inl (cZ, 6, .inl (fi_o))), (oq5, .inl (cI, 8, .inl (fc_o))), (oq6, .inl (cI, 8, .inl (fw_o))), (oq7, .inl (cI, 8, .inl (ft_o)))] s.heap := hP
  refine lv_aload_n hx hb dX3_copyFrom_0 rfl (lv_at hl 0 rfl) ?_
  refine lv_aload_n hx hb dX3_copyFrom_1 rfl (lv_at hl 1 rfl) ?_
  refine va_get (D := (dC, dI)) (ci := 2) (v := .int (nI n_o)) (C := RX3) (T := TX3) (N := 11) hx hb hts inX3 hown hK hP 8 rfl rfl 7 (by decide) lf34 (fun _ h9 => h9) rfl dX3_copyFrom_2 ?_
  refine va_put (D := (dC, dI)) (ci := 2) (v := .int (nI n_o)) (ty := .int) (C := RX3) (T := TX3) (N := 11) hx hb hts inX3 tyX3 tyX3_ok nmX3 hown hK hP hD hS 0 rfl rfl 7 (by decide) lf34 (fun _ h9 => h9) rfl (by decide +kernel) rfl rfl (Nat.le_of_ble_eq_true rfl) dX3_copyFrom_5 (fun H locs hP hD hS => ?_)
  have hP : va_P (dC, dI) vwCl [(q0, .inr (2, [.ref q1, .ref q2, .ref q3, .ref q4, .ref q5, .ref q6, .ref q7, .int (nI n_o), .int (nI h), .int (th), .int (tt)])), (q1, .inl (cI, 6, .inl (fk))), (q2, .inl (cI, 6, .inl (fs))), (q3, .inl (cI, 6, .inl (fn))), (q4, .inl (cZ, 6, .inl (fi))), (q5, .inl (cI, 8, .inl (fc))), (q6, .inl (cI, 8, .inl (fw))), (q7, .inl (cI, 8, .inl (ft))), (oq0, .inr (2, [.ref oq1, .ref oq2, .ref oq3, .ref oq4, .ref oq5, .ref oq6, .ref oq7, .int (nI n_o), .int (nI h_o), .int (th_o), .int (tt_o)])), (oq1, .inl (cI, 6, .inl (fk_o))), (oq2, .inl (cI, 6, .inl (fs_o))), (oq3, .inl (cI, 6, .inl (fn_o))), (oq4, .inl (cZ, 6, .inl (fi_o))), (oq5, .inl (cI, 8, .inl (fc_o))), (oq6, .inl (cI, 8, .inl (fw_o))), (oq7, .inl (cI, 8, .inl (ft_o)))] H := hP
  have hD : va_D A [(q0, .inr (2, [.ref q1, .ref q2, .ref q3, .ref q4, .ref q5, .ref q6, .ref q7, .int (nI n_o), .int (nI h), .int (th), .int (tt)])), (q1, .inl (cI, 6, .inl (fk))), (q2, .inl (cI, 6, .inl (fs))), (q3, .inl (cI, 6, .inl (fn))), (q4, .inl (cZ, 6, .inl (fi))), (q5, .inl (cI, 8, .inl (fc))), (q6, .inl (cI, 8, .inl (fw))), (q7, .inl (cI, 8, .inl (ft))), (oq0, .inr (2, [.ref oq1, .ref oq2, .ref oq3, .ref oq4, .ref oq5, .ref oq6, .ref oq7, .int (nI n_o), .int (nI h_o), .int (th_o), .int (tt_o)])), (oq1, .inl (cI, 6, .inl (fk_o))), (oq2, .inl (cI, 6, .inl (fs_o))), (oq3, .inl (cI, 6, .inl (fn_o))), (oq4, .inl (cZ, 6, .inl (fi_o))), (oq5, .inl (cI, 8, .inl (fc_o))), (oq6, .inl (cI, 8, .inl (fw_o))), (oq7, .inl (cI, 8, .inl (ft_o)))] := hD
  refine lv_aload_n hx hb dX3_copyFrom_8 rfl (lv_at hl 0 rfl) ?_
  refine lv_aload_n hx hb dX3_copyFrom_9 rfl (lv_at hl 1 rfl) ?_
  refine va_get (D := (dC, dI)) (ci := 2) (v := .int (nI h_o)) (C := RX3) (T := TX3) (N := 11) hx hb hts inX3 hown hK hP 8 rfl rfl 8 (by decide) lf38 (fun _ h9 => h9) rfl dX3_copyFrom_10 ?_
  refine va_put (D := (dC, dI)) (ci := 2) (v := .int (nI h_o)) (ty := .int) (C := RX3) (T := TX3) (N := 11) hx hb hts inX3 tyX3 tyX3_ok nmX3 hown hK hP hD hS 0 rfl rfl 8 (by decide) lf38 (fun _ h9 => h9) rfl (by decide +kernel) rfl rfl (Nat.le_of_ble_eq_true rfl) dX3_copyFrom_13 (fun H locs hP hD hS => ?_)
  have hP : va_P (dC, dI) vwCl [(q0, .inr (2, [.ref q1, .ref q2, .ref q3, .ref q4, .ref q5, .ref q6, .ref q7, .int (nI n_o), .int (nI h_o), .int (th), .int (tt)])), (q1, .inl (cI, 6, .inl (fk))), (q2, .inl (cI, 6, .inl (fs))), (q3, .inl (cI, 6, .inl (fn))), (q4, .inl (cZ, 6, .inl (fi))), (q5, .inl (cI, 8, .inl (fc))), (q6, .inl (cI, 8, .inl (fw))), (q7, .inl (cI, 8, .inl (ft))), (oq0, .inr (2, [.ref oq1, .ref oq2, .ref oq3, .ref oq4, .ref oq5, .ref oq6, .ref oq7, .int (nI n_o), .int (nI h_o), .int (th_o), .int (tt_o)])), (oq1, .inl (cI, 6, .inl (fk_o))), (oq2, .inl (cI, 6, .inl (fs_o))), (oq3, .inl (cI, 6, .inl (fn_o))), (oq4, .inl (cZ, 6, .inl (fi_o))), (oq5, .inl (cI, 8, .inl (fc_o))), (oq6, .inl (cI, 8, .inl (fw_o))), (oq7, .inl (cI, 8, .inl (ft_o)))] H := hP
  have hD : va_D A [(q0, .inr (2, [.ref q1, .ref q2, .ref q3, .ref q4, .ref q5, .ref q6, .ref q7, .int (nI n_o), .int (nI h_o), .int (th), .int (tt)])), (q1, .inl (cI, 6, .inl (fk))), (q2, .inl (cI, 6, .inl (fs))), (q3, .inl (cI, 6, .inl (fn))), (q4, .inl (cZ, 6, .inl (fi))), (q5, .inl (cI, 8, .inl (fc))), (q6, .inl (cI, 8, .inl (fw))), (q7, .inl (cI, 8, .inl (ft))), (oq0, .inr (2, [.ref oq1, .ref oq2, .ref oq3, .ref oq4, .ref oq5, .ref oq6, .ref oq7, .int (nI n_o), .int (nI h_o), .int (th_o), .int (tt_o)])), (oq1, .inl (cI, 6, .inl (fk_o))), (oq2, .inl (cI, 6, .inl (fs_o))), (oq3, .inl (cI, 6, .inl (fn_o))), (oq4, .inl (cZ, 6, .inl (fi_o))), (oq5, .inl (cI, 8, .inl (fc_o))), (oq6, .inl (cI, 8, .inl (fw_o))), (oq7, .inl (cI, 8, .inl (ft_o)))] := hD
  refine lv_aload_n hx hb dX3_copyFrom_16 rfl (lv_at hl 0 rfl) ?_
  refine lv_aload_n hx hb dX3_copyFrom_17 rfl (lv_at hl 1 rfl) ?_
  refine va_get (D := (dC, dI)) (ci := 2) (v := .int (th_o)) (C := RX3) (T := TX3) (N := 11) hx hb hts inX3 hown hK hP 8 rfl rfl 9 (by decide) lf41 (fun _ h9 => h9) rfl dX3_copyFrom_18 ?_
  refine va_put (D := (dC, dI)) (ci := 2) (v := .int (th_o)) (ty := .int) (C := RX3) (T := TX3) (N := 11) hx hb hts inX3 tyX3 tyX3_ok nmX3 hown hK hP hD hS 0 rfl rfl 9 (by decide) lf41 (fun _ h9 => h9) rfl (by decide +kernel) rfl rfl (Nat.le_of_ble_eq_true rfl) dX3_copyFrom_21 (fun H locs hP hD hS => ?_)
  have hP : va_P (dC, dI) vwCl [(q0, .inr (2, [.ref q1, .ref q2, .ref q3, .ref q4, .ref q5, .ref q6, .ref q7, .int (nI n_o), .int (nI h_o), .int (th_o), .int (tt)])), (q1, .inl (cI, 6, .inl (fk))), (q2, .inl (cI, 6, .inl (fs))), (q3, .inl (cI, 6, .inl (fn))), (q4, .inl (cZ, 6, .inl (fi))), (q5, .inl (cI, 8, .inl (fc))), (q6, .inl (cI, 8, .inl (fw))), (q7, .inl (cI, 8, .inl (ft))), (oq0, .inr (2, [.ref oq1, .ref oq2, .ref oq3, .ref oq4, .ref oq5, .ref oq6, .ref oq7, .int (nI n_o), .int (nI h_o), .int (th_o), .int (tt_o)])), (oq1, .inl (cI, 6, .inl (fk_o))), (oq2, .inl (cI, 6, .inl (fs_o))), (oq3, .inl (cI, 6, .inl (fn_o))), (oq4, .inl (cZ, 6, .inl (fi_o))), (oq5, .inl (cI, 8, .inl (fc_o))), (oq6, .inl (cI, 8, .inl (fw_o))), (oq7, .inl (cI, 8, .inl (ft_o)))] H := hP
  have hD : va_D A [(q0, .inr (2, [.ref q1, .ref q2, .ref q3, .ref q4, .ref q5, .ref q6, .ref q7, .int (nI n_o), .int (nI h_o), .int (th_o), .int (tt)])), (q1, .inl (cI, 6, .inl (fk))), (q2, .inl (cI, 6, .inl (fs))), (q3, .inl (cI, 6, .inl (fn))), (q4, .inl (cZ, 6, .inl (fi))), (q5, .inl (cI, 8, .inl (fc))), (q6, .inl (cI, 8, .inl (fw))), (q7, .inl (cI, 8, .inl (ft))), (oq0, .inr (2, [.ref oq1, .ref oq2, .ref oq3, .ref oq4, .ref oq5, .ref oq6, .ref oq7, .int (nI n_o), .int (nI h_o), .int (th_o), .int (tt_o)])), (oq1, .inl (cI, 6, .inl (fk_o))), (oq2, .inl (cI, 6, .inl (fs_o))), (oq3, .inl (cI, 6, .inl (fn_o))), (oq4, .inl (cZ, 6, .inl (fi_o))), (oq5, .inl (cI, 8, .inl (fc_o))), (oq6, .inl (cI, 8, .inl (fw_o))), (oq7, .inl (cI, 8, .inl (ft_o)))] := hD
  refine lv_aload_n hx hb dX3_copyFrom_24 rfl (lv_at hl 0 rfl) ?_
  refine lv_aload_n hx hb dX3_copyFrom_25 rfl (lv_at hl 1 rfl) ?_
  refine va_get (D := (dC, dI)) (ci := 2) (v := .int (tt_o)) (C := RX3) (T := TX3) (N := 11) hx hb hts inX3 hown hK hP 8 rfl rfl 10 (by decide) lf44 (fun _ h9 => h9) rfl dX3_copyFrom_26 ?_
  refine va_put (D := (dC, dI)) (ci := 2) (v := .int (tt_o)) (ty := .int) (C := RX3) (T := TX3) (N := 11) hx hb hts inX3 tyX3 tyX3_ok nmX3 hown hK hP hD hS 0 rfl rfl 10 (by decide) lf44 (fun _ h9 => h9) rfl (by decide +kernel) rfl rfl (Nat.le_of_ble_eq_true rfl) dX3_copyFrom_29 (fun H locs hP hD hS => ?_)
  have hP : va_P (dC, dI) vwCl [(q0, .inr (2, [.ref q1, .ref q2, .ref q3, .ref q4, .ref q5, .ref q6, .ref q7, .int (nI n_o), .int (nI h_o), .int (th_o), .int (tt_o)])), (q1, .inl (cI, 6, .inl (fk))), (q2, .inl (cI, 6, .inl (fs))), (q3, .inl (cI, 6, .inl (fn))), (q4, .inl (cZ, 6, .inl (fi))), (q5, .inl (cI, 8, .inl (fc))), (q6, .inl (cI, 8, .inl (fw))), (q7, .inl (cI, 8, .inl (ft))), (oq0, .inr (2, [.ref oq1, .ref oq2, .ref oq3, .ref oq4, .ref oq5, .ref oq6, .ref oq7, .int (nI n_o), .int (nI h_o), .int (th_o), .int (tt_o)])), (oq1, .inl (cI, 6, .inl (fk_o))), (oq2, .inl (cI, 6, .inl (fs_o))), (oq3, .inl (cI, 6, .inl (fn_o))), (oq4, .inl (cZ, 6, .inl (fi_o))), (oq5, .inl (cI, 8, .inl (fc_o))), (oq6, .inl (cI, 8, .inl (fw_o))), (oq7, .inl (cI, 8, .inl (ft_o)))] H := hP
  have hD : va_D A [(q0, .inr (2, [.ref q1, .ref q2, .ref q3, .ref q4, .ref q5, .ref q6, .ref q7, .int (nI n_o), .int (nI h_o), .int (th_o), .int (tt_o)])), (q1, .inl (cI, 6, .inl (fk))), (q2, .inl (cI, 6, .inl (fs))), (q3, .inl (cI, 6, .inl (fn))), (q4, .inl (cZ, 6, .inl (fi))), (q5, .inl (cI, 8, .inl (fc))), (q6, .inl (cI, 8, .inl (fw))), (q7, .inl (cI, 8, .inl (ft))), (oq0, .inr (2, [.ref oq1, .ref oq2, .ref oq3, .ref oq4, .ref oq5, .ref oq6, .ref oq7, .int (nI n_o), .int (nI h_o), .int (th_o), .int (tt_o)])), (oq1, .inl (cI, 6, .inl (fk_o))), (oq2, .inl (cI, 6, .inl (fs_o))), (oq3, .inl (cI, 6, .inl (fn_o))), (oq4, .inl (cZ, 6, .inl (fi_o))), (oq5, .inl (cI, 8, .inl (fc_o))), (oq6, .inl (cI, 8, .inl (fw_o))), (oq7, .inl (cI, 8, .inl (ft_o)))] := hD
  refine lv_aload_n hx hb dX3_copyFrom_32 rfl (lv_at hl 1 rfl) ?_
  refine va_get (D := (dC, dI)) (ci := 2) (v := .ref oq1) (C := RX3) (T := TX3) (N := 11) hx hb hts inX3 hown hK hP 8 rfl rfl 0 (by decide) lf11 (fun _ h9 => h9) rfl dX3_copyFrom_33 ?_
  refine lv_iconst (v := nI 0) hx hb dX3_copyFrom_36 (by decide) ?_
  refine lv_aload_n hx hb dX3_copyFrom_37 rfl (lv_at hl 0 rfl) ?_
  refine va_get (D := (dC, dI)) (ci := 2) (v := .ref q1) (C := RX3) (T := TX3) (N := 11) hx hb hts inX3 hown hK hP 0 rfl rfl 0 (by decide) lf11 (fun _ h9 => h9) rfl dX3_copyFrom_38 ?_
  refine lv_iconst (v := nI 0) hx hb dX3_copyFrom_41 (by decide) ?_
  refine lv_bipush (v := nI 6) hx hb dX3_copyFrom_42 (by decide) ?_
  refine w_copy hx hb (by rw [hml]; exact hl.1.symm) hown lk66 lnat lst lsy hK hP hD hS 9 1 0 rfl rfl rfl rfl (by decide) (fun i => rfl) (Nat.le_of_ble_eq_true rfl) (by decide +kernel) dX3_copyFrom_44 (fun H locs hP hD hS => ?_)
  have hP : va_P (dC, dI) vwCl [(q0, .inr (2, [.ref q1, .ref q2, .ref q3, .ref q4, .ref q5, .ref q6, .ref q7, .int (nI n_o), .int (nI h_o), .int (th_o), .int (tt_o)])), (q1, .inl (cI, 6, .inl (fk_o))), (q2, .inl (cI, 6, .inl (fs))), (q3, .inl (cI, 6, .inl (fn))), (q4, .inl (cZ, 6, .inl (fi))), (q5, .inl (cI, 8, .inl (fc))), (q6, .inl (cI, 8, .inl (fw))), (q7, .inl (cI, 8, .inl (ft))), (oq0, .inr (2, [.ref oq1, .ref oq2, .ref oq3, .ref oq4, .ref oq5, .ref oq6, .ref oq7, .int (nI n_o), .int (nI h_o), .int (th_o), .int (tt_o)])), (oq1, .inl (cI, 6, .inl (fk_o))), (oq2, .inl (cI, 6, .inl (fs_o))), (oq3, .inl (cI, 6, .inl (fn_o))), (oq4, .inl (cZ, 6, .inl (fi_o))), (oq5, .inl (cI, 8, .inl (fc_o))), (oq6, .inl (cI, 8, .inl (fw_o))), (oq7, .inl (cI, 8, .inl (ft_o)))] H := hP
  have hD : va_D A [(q0, .inr (2, [.ref q1, .ref q2, .ref q3, .ref q4, .ref q5, .ref q6, .ref q7, .int (nI n_o), .int (nI h_o), .int (th_o), .int (tt_o)])), (q1, .inl (cI, 6, .inl (fk_o))), (q2, .inl (cI, 6, .inl (fs))), (q3, .inl (cI, 6, .inl (fn))), (q4, .inl (cZ, 6, .inl (fi))), (q5, .inl (cI, 8, .inl (fc))), (q6, .inl (cI, 8, .inl (fw))), (q7, .inl (cI, 8, .inl (ft))), (oq0, .inr (2, [.ref oq1, .ref oq2, .ref oq3, .ref oq4, .ref oq5, .ref oq6, .ref oq7, .int (nI n_o), .int (nI h_o), .int (th_o), .int (tt_o)])), (oq1, .inl (cI, 6, .inl (fk_o))), (oq2, .inl (cI, 6, .inl (fs_o))), (oq3, .inl (cI, 6, .inl (fn_o))), (oq4, .inl (cZ, 6, .inl (fi_o))), (oq5, .inl (cI, 8, .inl (fc_o))), (oq6, .inl (cI, 8, .inl (fw_o))), (oq7, .inl (cI, 8, .inl (ft_o)))] := hD
  refine lv_aload_n hx hb dX3_copyFrom_47 rfl (lv_at hl 1 rfl) ?_
  refine va_get (D := (dC, dI)) (ci := 2) (v := .ref oq2) (C := RX3) (T := TX3) (N := 11) hx hb hts inX3 hown hK hP 8 rfl rfl 1 (by decide) lf15 (fun _ h9 => h9) rfl dX3_copyFrom_48 ?_
  refine lv_iconst (v := nI 0) hx hb dX3_copyFrom_51 (by decide) ?_
  refine lv_aload_n hx hb dX3_copyFrom_52 rfl (lv_at hl 0 rfl) ?_
  refine va_get (D := (dC, dI)) (ci := 2) (v := .ref q2) (C := RX3) (T := TX3) (N := 11) hx hb hts inX3 hown hK hP 0 rfl rfl 1 (by decide) lf15 (fun _ h9 => h9) rfl dX3_copyFrom_53 ?_
  refine lv_iconst (v := nI 0) hx hb dX3_copyFrom_56 (by decide) ?_
  refine lv_bipush (v := nI 6) hx hb dX3_copyFrom_57 (by decide) ?_
  refine w_copy hx hb (by rw [hml]; exact hl.1.symm) hown lk66 lnat lst lsy hK hP hD hS 10 2 0 rfl rfl rfl rfl (by decide) (fun i => rfl) (Nat.le_of_ble_eq_true rfl) (by decide +kernel) dX3_copyFrom_59 (fun H locs hP hD hS => ?_)
  have hP : va_P (dC, dI) vwCl [(q0, .inr (2, [.ref q1, .ref q2, .ref q3, .ref q4, .ref q5, .ref q6, .ref q7, .int (nI n_o), .int (nI h_o), .int (th_o), .int (tt_o)])), (q1, .inl (cI, 6, .inl (fk_o))), (q2, .inl (cI, 6, .inl (fs_o))), (q3, .inl (cI, 6, .inl (fn))), (q4, .inl (cZ, 6, .inl (fi))), (q5, .inl (cI, 8, .inl (fc))), (q6, .inl (cI, 8, .inl (fw))), (q7, .inl (cI, 8, .inl (ft))), (oq0, .inr (2, [.ref oq1, .ref oq2, .ref oq3, .ref oq4, .ref oq5, .ref oq6, .ref oq7, .int (nI n_o), .int (nI h_o), .int (th_o), .int (tt_o)])), (oq1, .inl (cI, 6, .inl (fk_o))), (oq2, .inl (cI, 6, .inl (fs_o))), (oq3, .inl (cI, 6, .inl (fn_o))), (oq4, .inl (cZ, 6, .inl (fi_o))), (oq5, .inl (cI, 8, .inl (fc_o))), (oq6, .inl (cI, 8, .inl (fw_o))), (oq7, .inl (cI, 8, .inl (ft_o)))] H := hP
  have hD : va_D A [(q0, .inr (2, [.ref q1, .ref q2, .ref q3, .ref q4, .ref q5, .ref q6, .ref q7, .int (nI n_o), .int (nI h_o), .int (th_o), .int (tt_o)])), (q1, .inl (cI, 6, .inl (fk_o))), (q2, .inl (cI, 6, .inl (fs_o))), (q3, .inl (cI, 6, .inl (fn))), (q4, .inl (cZ, 6, .inl (fi))), (q5, .inl (cI, 8, .inl (fc))), (q6, .inl (cI, 8, .inl (fw))), (q7, .inl (cI, 8, .inl (ft))), (oq0, .inr (2, [.ref oq1, .ref oq2, .ref oq3, .ref oq4, .ref oq5, .ref oq6, .ref oq7, .int (nI n_o), .int (nI h_o), .int (th_o), .int (tt_o)])), (oq1, .inl (cI, 6, .inl (fk_o))), (oq2, .inl (cI, 6, .inl (fs_o))), (oq3, .inl (cI, 6, .inl (fn_o))), (oq4, .inl (cZ, 6, .inl (fi_o))), (oq5, .inl (cI, 8, .inl (fc_o))), (oq6, .inl (cI, 8, .inl (fw_o))), (oq7, .inl (cI, 8, .inl (ft_o)))] := hD
  refine lv_aload_n hx hb dX3_copyFrom_62 rfl (lv_at hl 1 rfl) ?_
  refine va_get (D := (dC, dI)) (ci := 2) (v := .ref oq3) (C := RX3) (T := TX3) (N := 11) hx hb hts inX3 hown hK hP 8 rfl rfl 2 (by decide) lf18 (fun _ h9 => h9) rfl dX3_copyFrom_63 ?_
  refine lv_iconst (v := nI 0) hx hb dX3_copyFrom_66 (by decide) ?_
  refine lv_aload_n hx hb dX3_copyFrom_67 rfl (lv_at hl 0 rfl) ?_
  refine va_get (D := (dC, dI)) (ci := 2) (v := .ref q3) (C := RX3) (T := TX3) (N := 11) hx hb hts inX3 hown hK hP 0 rfl rfl 2 (by decide) lf18 (fun _ h9 => h9) rfl dX3_copyFrom_68 ?_
  refine lv_iconst (v := nI 0) hx hb dX3_copyFrom_71 (by decide) ?_
  refine lv_bipush (v := nI 6) hx hb dX3_copyFrom_72 (by decide) ?_
  refine w_copy hx hb (by rw [hml]; exact hl.1.symm) hown lk66 lnat lst lsy hK hP hD hS 11 3 0 rfl rfl rfl rfl (by decide) (fun i => rfl) (Nat.le_of_ble_eq_true rfl) (by decide +kernel) dX3_copyFrom_74 (fun H locs hP hD hS => ?_)
  have hP : va_P (dC, dI) vwCl [(q0, .inr (2, [.ref q1, .ref q2, .ref q3, .ref q4, .ref q5, .ref q6, .ref q7, .int (nI n_o), .int (nI h_o), .int (th_o), .int (tt_o)])), (q1, .inl (cI, 6, .inl (fk_o))), (q2, .inl (cI, 6, .inl (fs_o))), (q3, .inl (cI, 6, .inl (fn_o))), (q4, .inl (cZ, 6, .inl (fi))), (q5, .inl (cI, 8, .inl (fc))), (q6, .inl (cI, 8, .inl (fw))), (q7, .inl (cI, 8, .inl (ft))), (oq0, .inr (2, [.ref oq1, .ref oq2, .ref oq3, .ref oq4, .ref oq5, .ref oq6, .ref oq7, .int (nI n_o), .int (nI h_o), .int (th_o), .int (tt_o)])), (oq1, .inl (cI, 6, .inl (fk_o))), (oq2, .inl (cI, 6, .inl (fs_o))), (oq3, .inl (cI, 6, .inl (fn_o))), (oq4, .inl (cZ, 6, .inl (fi_o))), (oq5, .inl (cI, 8, .inl (fc_o))), (oq6, .inl (cI, 8, .inl (fw_o))), (oq7, .inl (cI, 8, .inl (ft_o)))] H := hP
  have hD : va_D A [(q0, .inr (2, [.ref q1, .ref q2, .ref q3, .ref q4, .ref q5, .ref q6, .ref q7, .int (nI n_o), .int (nI h_o), .int (th_o), .int (tt_o)])), (q1, .inl (cI, 6, .inl (fk_o))), (q2, .inl (cI, 6, .inl (fs_o))), (q3, .inl (cI, 6, .inl (fn_o))), (q4, .inl (cZ, 6, .inl (fi))), (q5, .inl (cI, 8, .inl (fc))), (q6, .inl (cI, 8, .inl (fw))), (q7, .inl (cI, 8, .inl (ft))), (oq0, .inr (2, [.ref oq1, .ref oq2, .ref oq3, .ref oq4, .ref oq5, .ref oq6, .ref oq7, .int (nI n_o), .int (nI h_o), .int (th_o), .int (tt_o)])), (oq1, .inl (cI, 6, .inl (fk_o))), (oq2, .inl (cI, 6, .inl (fs_o))), (oq3, .inl (cI, 6, .inl (fn_o))), (oq4, .inl (cZ, 6, .inl (fi_o))), (oq5, .inl (cI, 8, .inl (fc_o))), (oq6, .inl (cI, 8, .inl (fw_o))), (oq7, .inl (cI, 8, .inl (ft_o)))] := hD
  refine lv_aload_n hx hb dX3_copyFrom_77 rfl (lv_at hl 1 rfl) ?_
  refine va_get (D := (dC, dI)) (ci := 2) (v := .ref oq4) (C := RX3) (T := TX3) (N := 11) hx hb hts inX3 hown hK hP 8 rfl rfl 3 (by decide) lf21 (fun _ h9 => h9) rfl dX3_copyFrom_78 ?_
  refine lv_iconst (v := nI 0) hx hb dX3_copyFrom_81 (by decide) ?_
  refine lv_aload_n hx hb dX3_copyFrom_82 rfl (lv_at hl 0 rfl) ?_
  refine va_get (D := (dC, dI)) (ci := 2) (v := .ref q4) (C := RX3) (T := TX3) (N := 11) hx hb hts inX3 hown hK hP 0 rfl rfl 3 (by decide) lf21 (fun _ h9 => h9) rfl dX3_copyFrom_83 ?_
  refine lv_iconst (v := nI 0) hx hb dX3_copyFrom_86 (by decide) ?_
  refine lv_bipush (v := nI 6) hx hb dX3_copyFrom_87 (by decide) ?_
  refine w_copy hx hb (by rw [hml]; exact hl.1.symm) hown lk66 lnat lst lsy hK hP hD hS 12 4 1 rfl rfl rfl rfl (by decide) (fun i => by rcases hfi i with q | q <;> rw [q] <;> rfl) (Nat.le_of_ble_eq_true rfl) (by decide +kernel) dX3_copyFrom_89 (fun H locs hP hD hS => ?_)
  have hP : va_P (dC, dI) vwCl [(q0, .inr (2, [.ref q1, .ref q2, .ref q3, .ref q4, .ref q5, .ref q6, .ref q7, .int (nI n_o), .int (nI h_o), .int (th_o), .int (tt_o)])), (q1, .inl (cI, 6, .inl (fk_o))), (q2, .inl (cI, 6, .inl (fs_o))), (q3, .inl (cI, 6, .inl (fn_o))), (q4, .inl (cZ, 6, .inl (fi_o))), (q5, .inl (cI, 8, .inl (fc))), (q6, .inl (cI, 8, .inl (fw))), (q7, .inl (cI, 8, .inl (ft))), (oq0, .inr (2, [.ref oq1, .ref oq2, .ref oq3, .ref oq4, .ref oq5, .ref oq6, .ref oq7, .int (nI n_o), .int (nI h_o), .int (th_o), .int (tt_o)])), (oq1, .inl (cI, 6, .inl (fk_o))), (oq2, .inl (cI, 6, .inl (fs_o))), (oq3, .inl (cI, 6, .inl (fn_o))), (oq4, .inl (cZ, 6, .inl (fi_o))), (oq5, .inl (cI, 8, .inl (fc_o))), (oq6, .inl (cI, 8, .inl (fw_o))), (oq7, .inl (cI, 8, .inl (ft_o)))] H := hP
  have hD : va_D A [(q0, .inr (2, [.ref q1, .ref q2, .ref q3, .ref q4, .ref q5, .ref q6, .ref q7, .int (nI n_o), .int (nI h_o), .int (th_o), .int (tt_o)])), (q1, .inl (cI, 6, .inl (fk_o))), (q2, .inl (cI, 6, .inl (fs_o))), (q3, .inl (cI, 6, .inl (fn_o))), (q4, .inl (cZ, 6, .inl (fi_o))), (q5, .inl (cI, 8, .inl (fc))), (q6, .inl (cI, 8, .inl (fw))), (q7, .inl (cI, 8, .inl (ft))), (oq0, .inr (2, [.ref oq1, .ref oq2, .ref oq3, .ref oq4, .ref oq5, .ref oq6, .ref oq7, .int (nI n_o), .int (nI h_o), .int (th_o), .int (tt_o)])), (oq1, .inl (cI, 6, .inl (fk_o))), (oq2, .inl (cI, 6, .inl (fs_o))), (oq3, .inl (cI, 6, .inl (fn_o))), (oq4, .inl (cZ, 6, .inl (fi_o))), (oq5, .inl (cI, 8, .inl (fc_o))), (oq6, .inl (cI, 8, .inl (fw_o))), (oq7, .inl (cI, 8, .inl (ft_o)))] := hD
  refine lv_aload_n hx hb dX3_copyFrom_92 rfl (lv_at hl 1 rfl) ?_
  refine va_get (D := (dC, dI)) (ci := 2) (v := .ref oq5) (C := RX3) (T := TX3) (N := 11) hx hb hts inX3 hown hK hP 8 rfl rfl 4 (by decide) lf25 (fun _ h9 => h9) rfl dX3_copyFrom_93 ?_
  refine lv_iconst (v := nI 0) hx hb dX3_copyFrom_96 (by decide) ?_
  refine lv_aload_n hx hb dX3_copyFrom_97 rfl (lv_at hl 0 rfl) ?_
  refine va_get (D := (dC, dI)) (ci := 2) (v := .ref q5) (C := RX3) (T := TX3) (N := 11) hx hb hts inX3 hown hK hP 0 rfl rfl 4 (by decide) lf25 (fun _ h9 => h9) rfl dX3_copyFrom_98 ?_
  refine lv_iconst (v := nI 0) hx hb dX3_copyFrom_101 (by decide) ?_
  refine lv_bipush (v := nI 8) hx hb dX3_copyFrom_102 (by decide) ?_
  refine w_copy hx hb (by rw [hml]; exact hl.1.symm) hown lk66 lnat lst lsy hK hP hD hS 13 5 0 rfl rfl rfl rfl (by decide) (fun i => rfl) (Nat.le_of_ble_eq_true rfl) (by decide +kernel) dX3_copyFrom_104 (fun H locs hP hD hS => ?_)
  have hP : va_P (dC, dI) vwCl [(q0, .inr (2, [.ref q1, .ref q2, .ref q3, .ref q4, .ref q5, .ref q6, .ref q7, .int (nI n_o), .int (nI h_o), .int (th_o), .int (tt_o)])), (q1, .inl (cI, 6, .inl (fk_o))), (q2, .inl (cI, 6, .inl (fs_o))), (q3, .inl (cI, 6, .inl (fn_o))), (q4, .inl (cZ, 6, .inl (fi_o))), (q5, .inl (cI, 8, .inl (fc_o))), (q6, .inl (cI, 8, .inl (fw))), (q7, .inl (cI, 8, .inl (ft))), (oq0, .inr (2, [.ref oq1, .ref oq2, .ref oq3, .ref oq4, .ref oq5, .ref oq6, .ref oq7, .int (nI n_o), .int (nI h_o), .int (th_o), .int (tt_o)])), (oq1, .inl (cI, 6, .inl (fk_o))), (oq2, .inl (cI, 6, .inl (fs_o))), (oq3, .inl (cI, 6, .inl (fn_o))), (oq4, .inl (cZ, 6, .inl (fi_o))), (oq5, .inl (cI, 8, .inl (fc_o))), (oq6, .inl (cI, 8, .inl (fw_o))), (oq7, .inl (cI, 8, .inl (ft_o)))] H := hP
  have hD : va_D A [(q0, .inr (2, [.ref q1, .ref q2, .ref q3, .ref q4, .ref q5, .ref q6, .ref q7, .int (nI n_o), .int (nI h_o), .int (th_o), .int (tt_o)])), (q1, .inl (cI, 6, .inl (fk_o))), (q2, .inl (cI, 6, .inl (fs_o))), (q3, .inl (cI, 6, .inl (fn_o))), (q4, .inl (cZ, 6, .inl (fi_o))), (q5, .inl (cI, 8, .inl (fc_o))), (q6, .inl (cI, 8, .inl (fw))), (q7, .inl (cI, 8, .inl (ft))), (oq0, .inr (2, [.ref oq1, .ref oq2, .ref oq3, .ref oq4, .ref oq5, .ref oq6, .ref oq7, .int (nI n_o), .int (nI h_o), .int (th_o), .int (tt_o)])), (oq1, .inl (cI, 6, .inl (fk_o))), (oq2, .inl (cI, 6, .inl (fs_o))), (oq3, .inl (cI, 6, .inl (fn_o))), (oq4, .inl (cZ, 6, .inl (fi_o))), (oq5, .inl (cI, 8, .inl (fc_o))), (oq6, .inl (cI, 8, .inl (fw_o))), (oq7, .inl (cI, 8, .inl (ft_o)))] := hD
  refine lv_aload_n hx hb dX3_copyFrom_107 rfl (lv_at hl 1 rfl) ?_
  refine va_get (D := (dC, dI)) (ci := 2) (v := .ref oq6) (C := RX3) (T := TX3) (N := 11) hx hb hts inX3 hown hK hP 8 rfl rfl 5 (by decide) lf28 (fun _ h9 => h9) rfl dX3_copyFrom_108 ?_
  refine lv_iconst (v := nI 0) hx hb dX3_copyFrom_111 (by decide) ?_
  refine lv_aload_n hx hb dX3_copyFrom_112 rfl (lv_at hl 0 rfl) ?_
  refine va_get (D := (dC, dI)) (ci := 2) (v := .ref q6) (C := RX3) (T := TX3) (N := 11) hx hb hts inX3 hown hK hP 0 rfl rfl 5 (by decide) lf28 (fun _ h9 => h9) rfl dX3_copyFrom_113 ?_
  refine lv_iconst (v := nI 0) hx hb dX3_copyFrom_116 (by decide) ?_
  refine lv_bipush (v := nI 8) hx hb dX3_copyFrom_117 (by decide) ?_
  refine w_copy hx hb (by rw [hml]; exact hl.1.symm) hown lk66 lnat lst lsy hK hP hD hS 14 6 0 rfl rfl rfl rfl (by decide) (fun i => rfl) (Nat.le_of_ble_eq_true rfl) (by decide +kernel) dX3_copyFrom_119 (fun H locs hP hD hS => ?_)
  have hP : va_P (dC, dI) vwCl [(q0, .inr (2, [.ref q1, .ref q2, .ref q3, .ref q4, .ref q5, .ref q6, .ref q7, .int (nI n_o), .int (nI h_o), .int (th_o), .int (tt_o)])), (q1, .inl (cI, 6, .inl (fk_o))), (q2, .inl (cI, 6, .inl (fs_o))), (q3, .inl (cI, 6, .inl (fn_o))), (q4, .inl (cZ, 6, .inl (fi_o))), (q5, .inl (cI, 8, .inl (fc_o))), (q6, .inl (cI, 8, .inl (fw_o))), (q7, .inl (cI, 8, .inl (ft))), (oq0, .inr (2, [.ref oq1, .ref oq2, .ref oq3, .ref oq4, .ref oq5, .ref oq6, .ref oq7, .int (nI n_o), .int (nI h_o), .int (th_o), .int (tt_o)])), (oq1, .inl (cI, 6, .inl (fk_o))), (oq2, .inl (cI, 6, .inl (fs_o))), (oq3, .inl (cI, 6, .inl (fn_o))), (oq4, .inl (cZ, 6, .inl (fi_o))), (oq5, .inl (cI, 8, .inl (fc_o))), (oq6, .inl (cI, 8, .inl (fw_o))), (oq7, .inl (cI, 8, .inl (ft_o)))] H := hP
  have hD : va_D A [(q0, .inr (2, [.ref q1, .ref q2, .ref q3, .ref q4, .ref q5, .ref q6, .ref q7, .int (nI n_o), .int (nI h_o), .int (th_o), .int (tt_o)])), (q1, .inl (cI, 6, .inl (fk_o))), (q2, .inl (cI, 6, .inl (fs_o))), (q3, .inl (cI, 6, .inl (fn_o))), (q4, .inl (cZ, 6, .inl (fi_o))), (q5, .inl (cI, 8, .inl (fc_o))), (q6, .inl (cI, 8, .inl (fw_o))), (q7, .inl (cI, 8, .inl (ft))), (oq0, .inr (2, [.ref oq1, .ref oq2, .ref oq3, .ref oq4, .ref oq5, .ref oq6, .ref oq7, .int (nI n_o), .int (nI h_o), .int (th_o), .int (tt_o)])), (oq1, .inl (cI, 6, .inl (fk_o))), (oq2, .inl (cI, 6, .inl (fs_o))), (oq3, .inl (cI, 6, .inl (fn_o))), (oq4, .inl (cZ, 6, .inl (fi_o))), (oq5, .inl (cI, 8, .inl (fc_o))), (oq6, .inl (cI, 8, .inl (fw_o))), (oq7, .inl (cI, 8, .inl (ft_o)))] := hD
  refine lv_aload_n hx hb dX3_copyFrom_122 rfl (lv_at hl 1 rfl) ?_
  refine va_get (D := (dC, dI)) (ci := 2) (v := .ref oq7) (C := RX3) (T := TX3) (N := 11) hx hb hts inX3 hown hK hP 8 rfl rfl 6 (by decide) lf31 (fun _ h9 => h9) rfl dX3_copyFrom_123 ?_
  refine lv_iconst (v := nI 0) hx hb dX3_copyFrom_126 (by decide) ?_
  refine lv_aload_n hx hb dX3_copyFrom_127 rfl (lv_at hl 0 rfl) ?_
  refine va_get (D := (dC, dI)) (ci := 2) (v := .ref q7) (C := RX3) (T := TX3) (N := 11) hx hb hts inX3 hown hK hP 0 rfl rfl 6 (by decide) lf31 (fun _ h9 => h9) rfl dX3_copyFrom_128 ?_
  refine lv_iconst (v := nI 0) hx hb dX3_copyFrom_131 (by decide) ?_
  refine lv_bipush (v := nI 8) hx hb dX3_copyFrom_132 (by decide) ?_
  refine w_copy hx hb (by rw [hml]; exact hl.1.symm) hown lk66 lnat lst lsy hK hP hD hS 15 7 0 rfl rfl rfl rfl (by decide) (fun i => rfl) (Nat.le_of_ble_eq_true rfl) (by decide +kernel) dX3_copyFrom_134 (fun H locs hP hD hS => ?_)
  have hP : va_P (dC, dI) vwCl [(q0, .inr (2, [.ref q1, .ref q2, .ref q3, .ref q4, .ref q5, .ref q6, .ref q7, .int (nI n_o), .int (nI h_o), .int (th_o), .int (tt_o)])), (q1, .inl (cI, 6, .inl (fk_o))), (q2, .inl (cI, 6, .inl (fs_o))), (q3, .inl (cI, 6, .inl (fn_o))), (q4, .inl (cZ, 6, .inl (fi_o))), (q5, .inl (cI, 8, .inl (fc_o))), (q6, .inl (cI, 8, .inl (fw_o))), (q7, .inl (cI, 8, .inl (ft_o))), (oq0, .inr (2, [.ref oq1, .ref oq2, .ref oq3, .ref oq4, .ref oq5, .ref oq6, .ref oq7, .int (nI n_o), .int (nI h_o), .int (th_o), .int (tt_o)])), (oq1, .inl (cI, 6, .inl (fk_o))), (oq2, .inl (cI, 6, .inl (fs_o))), (oq3, .inl (cI, 6, .inl (fn_o))), (oq4, .inl (cZ, 6, .inl (fi_o))), (oq5, .inl (cI, 8, .inl (fc_o))), (oq6, .inl (cI, 8, .inl (fw_o))), (oq7, .inl (cI, 8, .inl (ft_o)))] H := hP
  have hD : va_D A [(q0, .inr (2, [.ref q1, .ref q2, .ref q3, .ref q4, .ref q5, .ref q6, .ref q7, .int (nI n_o), .int (nI h_o), .int (th_o), .int (tt_o)])), (q1, .inl (cI, 6, .inl (fk_o))), (q2, .inl (cI, 6, .inl (fs_o))), (q3, .inl (cI, 6, .inl (fn_o))), (q4, .inl (cZ, 6, .inl (fi_o))), (q5, .inl (cI, 8, .inl (fc_o))), (q6, .inl (cI, 8, .inl (fw_o))), (q7, .inl (cI, 8, .inl (ft_o))), (oq0, .inr (2, [.ref oq1, .ref oq2, .ref oq3, .ref oq4, .ref oq5, .ref oq6, .ref oq7, .int (nI n_o), .int (nI h_o), .int (th_o), .int (tt_o)])), (oq1, .inl (cI, 6, .inl (fk_o))), (oq2, .inl (cI, 6, .inl (fs_o))), (oq3, .inl (cI, 6, .inl (fn_o))), (oq4, .inl (cZ, 6, .inl (fi_o))), (oq5, .inl (cI, 8, .inl (fc_o))), (oq6, .inl (cI, 8, .inl (fw_o))), (oq7, .inl (cI, 8, .inl (ft_o)))] := hD
  have hP7 := hP.sub (ws' := [(q0, .inr (2, [.ref q1, .ref q2, .ref q3, .ref q4, .ref q5, .ref q6, .ref q7, .int (nI n_o), .int (nI h_o), .int (th_o), .int (tt_o)])), (q1, .inl (cI, 6, .inl (fk_o))), (q2, .inl (cI, 6, .inl (fs_o))), (q3, .inl (cI, 6, .inl (fn_o))), (q4, .inl (cZ, 6, .inl (fi_o))), (q5, .inl (cI, 8, .inl (fc_o))), (q6, .inl (cI, 8, .inl (fw_o))), (q7, .inl (cI, 8, .inl (ft_o))), (oq0, .inr (2, [.ref oq1, .ref oq2, .ref oq3, .ref oq4, .ref oq5, .ref oq6, .ref oq7, .int (nI n_o), .int (nI h_o), .int (th_o), .int (tt_o)])), (oq1, .inl (cI, 6, .inl (fk_o))), (oq2, .inl (cI, 6, .inl (fs_o))), (oq3, .inl (cI, 6, .inl (fn_o))), (oq4, .inl (cZ, 6, .inl (fi_o))), (oq5, .inl (cI, 8, .inl (fc_o))), (oq6, .inl (cI, 8, .inl (fw_o))), (oq7, .inl (cI, 8, .inl (ft_o)))]) [0, 1, 2, 3, 4, 5, 6, 7, 8, 9, 10, 11, 12, 13, 14, 15] rfl
  have hD7 := hD.sub (ws' := [(q0, .inr (2, [.ref q1, .ref q2, .ref q3, .ref q4, .ref q5, .ref q6, .ref q7, .int (nI n_o), .int (nI h_o), .int (th_o), .int (tt_o)])), (q1, .inl (cI, 6, .inl (fk_o))), (q2, .inl (cI, 6, .inl (fs_o))), (q3, .inl (cI, 6, .inl (fn_o))), (q4, .inl (cZ, 6, .inl (fi_o))), (q5, .inl (cI, 8, .inl (fc_o))), (q6, .inl (cI, 8, .inl (fw_o))), (q7, .inl (cI, 8, .inl (ft_o))), (oq0, .inr (2, [.ref oq1, .ref oq2, .ref oq3, .ref oq4, .ref oq5, .ref oq6, .ref oq7, .int (nI n_o), .int (nI h_o), .int (th_o), .int (tt_o)])), (oq1, .inl (cI, 6, .inl (fk_o))), (oq2, .inl (cI, 6, .inl (fs_o))), (oq3, .inl (cI, 6, .inl (fn_o))), (oq4, .inl (cZ, 6, .inl (fi_o))), (oq5, .inl (cI, 8, .inl (fc_o))), (oq6, .inl (cI, 8, .inl (fw_o))), (oq7, .inl (cI, 8, .inl (ft_o)))]) [0, 1, 2, 3, 4, 5, 6, 7, 8, 9, 10, 11, 12, 13, 14, 15] (by decide) rfl
  exact retWv hx hb hr hlocks hP7 hD7 hS hAe dX3_copyFrom_137
end
