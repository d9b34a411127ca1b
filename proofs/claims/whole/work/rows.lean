section
/-- a private method of a class that the tables say can be made, by its rows of tables_1 -/
def lw_okq (q : MethodName × Nat) : Prop := (q.1.cls ≠ "java/lang/invoke/MethodHandle" ∧ q.1.cls ≠ "java/lang/invoke/VarHandle") ∧ Cond.instantiable q.1.cls q.2 ∈ tables_1 ∧ Cond.privateMethod q.1 ∈ tables_1 ∧ Cond.instanceMethod q.1 ∈ tables_1
theorem lw_p0 : lw_okq (⟨"PacketTraceback$Packet", "putMark", "(III)V"⟩, 5) := ⟨⟨by decide +kernel, by decide +kernel⟩, List.mem_of_getElem? (i := 49) (by decide +kernel), List.mem_of_getElem? (i := 231) (by decide +kernel), List.mem_of_getElem? (i := 232) (by decide +kernel)⟩
theorem lw_p1 : lw_okq (⟨"PacketTraceback", "deliver", "(I)I"⟩, 8) := ⟨⟨by decide +kernel, by decide +kernel⟩, List.mem_of_getElem? (i := 11) (by decide +kernel), List.mem_of_getElem? (i := 235) (by decide +kernel), List.mem_of_getElem? (i := 236) (by decide +kernel)⟩
theorem lw_p2 : lw_okq (⟨"PacketTraceback", "carryToVictim", "(I)V"⟩, 8) := ⟨⟨by decide +kernel, by decide +kernel⟩, List.mem_of_getElem? (i := 11) (by decide +kernel), List.mem_of_getElem? (i := 239) (by decide +kernel), List.mem_of_getElem? (i := 240) (by decide +kernel)⟩
theorem lw_p3 : lw_okq (⟨"PacketTraceback", "passRouter", "(I)V"⟩, 8) := ⟨⟨by decide +kernel, by decide +kernel⟩, List.mem_of_getElem? (i := 11) (by decide +kernel), List.mem_of_getElem? (i := 252) (by decide +kernel), List.mem_of_getElem? (i := 253) (by decide +kernel)⟩
theorem lw_p4 : lw_okq (⟨"PacketTraceback", "tryPackets", "(II)I"⟩, 8) := ⟨⟨by decide +kernel, by decide +kernel⟩, List.mem_of_getElem? (i := 11) (by decide +kernel), List.mem_of_getElem? (i := 389) (by decide +kernel), List.mem_of_getElem? (i := 390) (by decide +kernel)⟩
theorem lw_p5 : lw_okq (⟨"PacketTraceback", "isNewOnPath", "()Z"⟩, 8) := ⟨⟨by decide +kernel, by decide +kernel⟩, List.mem_of_getElem? (i := 11) (by decide +kernel), List.mem_of_getElem? (i := 394) (by decide +kernel), List.mem_of_getElem? (i := 395) (by decide +kernel)⟩
theorem lw_p6 : lw_okq (⟨"PacketTraceback", "findTree", "()Z"⟩, 8) := ⟨⟨by decide +kernel, by decide +kernel⟩, List.mem_of_getElem? (i := 11) (by decide +kernel), List.mem_of_getElem? (i := 408) (by decide +kernel), List.mem_of_getElem? (i := 409) (by decide +kernel)⟩
theorem lw_p7 : lw_okq (⟨"PacketTraceback", "findLevel", "(III)Z"⟩, 8) := ⟨⟨by decide +kernel, by decide +kernel⟩, List.mem_of_getElem? (i := 11) (by decide +kernel), List.mem_of_getElem? (i := 421) (by decide +kernel), List.mem_of_getElem? (i := 422) (by decide +kernel)⟩
theorem lw_p8 : lw_okq (⟨"PacketTraceback", "findChildren", "(III)Z"⟩, 8) := ⟨⟨by decide +kernel, by decide +kernel⟩, List.mem_of_getElem? (i := 11) (by decide +kernel), List.mem_of_getElem? (i := 425) (by decide +kernel), List.mem_of_getElem? (i := 426) (by decide +kernel)⟩
theorem lw_p9 : lw_okq (⟨"PacketTraceback", "routerBehind", "(I)I"⟩, 8) := ⟨⟨by decide +kernel, by decide +kernel⟩, List.mem_of_getElem? (i := 11) (by decide +kernel), List.mem_of_getElem? (i := 472) (by decide +kernel), List.mem_of_getElem? (i := 473) (by decide +kernel)⟩
theorem lw_p10 : lw_okq (⟨"PacketTracebackModel", "isRouter", "(I)Z"⟩, 24) := ⟨⟨by decide +kernel, by decide +kernel⟩, List.mem_of_getElem? (i := 485) (by decide +kernel), List.mem_of_getElem? (i := 568) (by decide +kernel), List.mem_of_getElem? (i := 569) (by decide +kernel)⟩
theorem lw_p11 : lw_okq (⟨"PacketTracebackModel", "isUsed", "(I)Z"⟩, 24) := ⟨⟨by decide +kernel, by decide +kernel⟩, List.mem_of_getElem? (i := 485) (by decide +kernel), List.mem_of_getElem? (i := 578) (by decide +kernel), List.mem_of_getElem? (i := 579) (by decide +kernel)⟩
theorem lw_p12 : lw_okq (⟨"PacketTracebackModel", "travels", "(I)V"⟩, 24) := ⟨⟨by decide +kernel, by decide +kernel⟩, List.mem_of_getElem? (i := 485) (by decide +kernel), List.mem_of_getElem? (i := 623) (by decide +kernel), List.mem_of_getElem? (i := 624) (by decide +kernel)⟩
theorem lw_p13 : lw_okq (⟨"PacketTracebackModel", "process", "(I)V"⟩, 24) := ⟨⟨by decide +kernel, by decide +kernel⟩, List.mem_of_getElem? (i := 485) (by decide +kernel), List.mem_of_getElem? (i := 627) (by decide +kernel), List.mem_of_getElem? (i := 628) (by decide +kernel)⟩
theorem lw_p14 : lw_okq (⟨"PacketTracebackModel", "draws", "()I"⟩, 24) := ⟨⟨by decide +kernel, by decide +kernel⟩, List.mem_of_getElem? (i := 485) (by decide +kernel), List.mem_of_getElem? (i := 631) (by decide +kernel), List.mem_of_getElem? (i := 632) (by decide +kernel)⟩
theorem lw_p15 : lw_okq (⟨"PacketTracebackModel", "records", "()V"⟩, 24) := ⟨⟨by decide +kernel, by decide +kernel⟩, List.mem_of_getElem? (i := 485) (by decide +kernel), List.mem_of_getElem? (i := 636) (by decide +kernel), List.mem_of_getElem? (i := 637) (by decide +kernel)⟩
def lw_privs_1 : List (MethodName × Nat) := [(⟨"PacketTraceback$Packet", "putMark", "(III)V"⟩, 5), (⟨"PacketTraceback", "deliver", "(I)I"⟩, 8), (⟨"PacketTraceback", "carryToVictim", "(I)V"⟩, 8), (⟨"PacketTraceback", "passRouter", "(I)V"⟩, 8), (⟨"PacketTraceback", "tryPackets", "(II)I"⟩, 8), (⟨"PacketTraceback", "isNewOnPath", "()Z"⟩, 8), (⟨"PacketTraceback", "findTree", "()Z"⟩, 8), (⟨"PacketTraceback", "findLevel", "(III)Z"⟩, 8), (⟨"PacketTraceback", "findChildren", "(III)Z"⟩, 8), (⟨"PacketTraceback", "routerBehind", "(I)I"⟩, 8), (⟨"PacketTracebackModel", "isRouter", "(I)Z"⟩, 24), (⟨"PacketTracebackModel", "isUsed", "(I)Z"⟩, 24), (⟨"PacketTracebackModel", "travels", "(I)V"⟩, 24), (⟨"PacketTracebackModel", "process", "(I)V"⟩, 24), (⟨"PacketTracebackModel", "draws", "()I"⟩, 24), (⟨"PacketTracebackModel", "records", "()V"⟩, 24)]
theorem lw_r1 : ∀ q ∈ lw_privs_1, lw_okq q := List.forall_mem_cons.mpr ⟨lw_p0, List.forall_mem_cons.mpr ⟨lw_p1, List.forall_mem_cons.mpr ⟨lw_p2, List.forall_mem_cons.mpr ⟨lw_p3, List.forall_mem_cons.mpr ⟨lw_p4, List.forall_mem_cons.mpr ⟨lw_p5, List.forall_mem_cons.mpr ⟨lw_p6, List.forall_mem_cons.mpr ⟨lw_p7, List.forall_mem_cons.mpr ⟨lw_p8, List.forall_mem_cons.mpr ⟨lw_p9, List.forall_mem_cons.mpr ⟨lw_p10, List.forall_mem_cons.mpr ⟨lw_p11, List.forall_mem_cons.mpr ⟨lw_p12, List.forall_mem_cons.mpr ⟨lw_p13, List.forall_mem_cons.mpr ⟨lw_p14, List.forall_mem_cons.mpr ⟨lw_p15, fun _ h => absurd h List.not_mem_nil⟩⟩⟩⟩⟩⟩⟩⟩⟩⟩⟩⟩⟩⟩⟩⟩
theorem lw_p16 : lw_okq (⟨"PacketTracebackModel", "packetsAt", "(I)I"⟩, 24) := ⟨⟨by decide +kernel, by decide +kernel⟩, List.mem_of_getElem? (i := 485) (by decide +kernel), List.mem_of_getElem? (i := 654) (by decide +kernel), List.mem_of_getElem? (i := 655) (by decide +kernel)⟩
theorem lw_p17 : lw_okq (⟨"PacketTracebackModel", "different", "(II)I"⟩, 24) := ⟨⟨by decide +kernel, by decide +kernel⟩, List.mem_of_getElem? (i := 485) (by decide +kernel), List.mem_of_getElem? (i := 670) (by decide +kernel), List.mem_of_getElem? (i := 671) (by decide +kernel)⟩
theorem lw_p18 : lw_okq (⟨"PacketTracebackModel", "trueFragment", "(II)I"⟩, 24) := ⟨⟨by decide +kernel, by decide +kernel⟩, List.mem_of_getElem? (i := 485) (by decide +kernel), List.mem_of_getElem? (i := 682) (by decide +kernel), List.mem_of_getElem? (i := 683) (by decide +kernel)⟩
theorem lw_p19 : lw_okq (⟨"PacketTracebackModel", "startsTrial", "(I)V"⟩, 24) := ⟨⟨by decide +kernel, by decide +kernel⟩, List.mem_of_getElem? (i := 485) (by decide +kernel), List.mem_of_getElem? (i := 690) (by decide +kernel), List.mem_of_getElem? (i := 691) (by decide +kernel)⟩
theorem lw_p20 : lw_okq (⟨"PacketTracebackModel", "isTrialComplete", "()Z"⟩, 24) := ⟨⟨by decide +kernel, by decide +kernel⟩, List.mem_of_getElem? (i := 485) (by decide +kernel), List.mem_of_getElem? (i := 694) (by decide +kernel), List.mem_of_getElem? (i := 695) (by decide +kernel)⟩
theorem lw_p21 : lw_okq (⟨"PacketTracebackModel", "findDistance", "(I)Z"⟩, 24) := ⟨⟨by decide +kernel, by decide +kernel⟩, List.mem_of_getElem? (i := 485) (by decide +kernel), List.mem_of_getElem? (i := 702) (by decide +kernel), List.mem_of_getElem? (i := 703) (by decide +kernel)⟩
theorem lw_p22 : lw_okq (⟨"PacketTracebackModel", "combinations", "(I)I"⟩, 24) := ⟨⟨by decide +kernel, by decide +kernel⟩, List.mem_of_getElem? (i := 485) (by decide +kernel), List.mem_of_getElem? (i := 706) (by decide +kernel), List.mem_of_getElem? (i := 707) (by decide +kernel)⟩
theorem lw_p23 : lw_okq (⟨"PacketTracebackModel", "findWords", "(I)V"⟩, 24) := ⟨⟨by decide +kernel, by decide +kernel⟩, List.mem_of_getElem? (i := 485) (by decide +kernel), List.mem_of_getElem? (i := 710) (by decide +kernel), List.mem_of_getElem? (i := 711) (by decide +kernel)⟩
theorem lw_p24 : lw_okq (⟨"PacketTracebackModel", "fragmentAt", "(III)I"⟩, 24) := ⟨⟨by decide +kernel, by decide +kernel⟩, List.mem_of_getElem? (i := 485) (by decide +kernel), List.mem_of_getElem? (i := 714) (by decide +kernel), List.mem_of_getElem? (i := 715) (by decide +kernel)⟩
theorem lw_p25 : lw_okq (⟨"PacketTracebackModel", "findNodes", "(II)Z"⟩, 24) := ⟨⟨by decide +kernel, by decide +kernel⟩, List.mem_of_getElem? (i := 485) (by decide +kernel), List.mem_of_getElem? (i := 718) (by decide +kernel), List.mem_of_getElem? (i := 719) (by decide +kernel)⟩
theorem lw_p26 : lw_okq (⟨"PacketTracebackModel", "adds", "(III)Z"⟩, 24) := ⟨⟨by decide +kernel, by decide +kernel⟩, List.mem_of_getElem? (i := 485) (by decide +kernel), List.mem_of_getElem? (i := 725) (by decide +kernel), List.mem_of_getElem? (i := 726) (by decide +kernel)⟩
theorem lw_p27 : lw_okq (⟨"PacketTracebackModel", "isNode", "(I)Z"⟩, 24) := ⟨⟨by decide +kernel, by decide +kernel⟩, List.mem_of_getElem? (i := 485) (by decide +kernel), List.mem_of_getElem? (i := 737) (by decide +kernel), List.mem_of_getElem? (i := 738) (by decide +kernel)⟩
theorem lw_p28 : lw_okq (⟨"PacketTracebackModel", "routerOf", "(I)I"⟩, 24) := ⟨⟨by decide +kernel, by decide +kernel⟩, List.mem_of_getElem? (i := 485) (by decide +kernel), List.mem_of_getElem? (i := 753) (by decide +kernel), List.mem_of_getElem? (i := 754) (by decide +kernel)⟩
theorem lw_p29 : lw_okq (⟨"PacketTracebackModel", "routerWith", "(I)I"⟩, 24) := ⟨⟨by decide +kernel, by decide +kernel⟩, List.mem_of_getElem? (i := 485) (by decide +kernel), List.mem_of_getElem? (i := 757) (by decide +kernel), List.mem_of_getElem? (i := 758) (by decide +kernel)⟩
def lw_privs_2 : List (MethodName × Nat) := [(⟨"PacketTracebackModel", "packetsAt", "(I)I"⟩, 24), (⟨"PacketTracebackModel", "different", "(II)I"⟩, 24), (⟨"PacketTracebackModel", "trueFragment", "(II)I"⟩, 24), (⟨"PacketTracebackModel", "startsTrial", "(I)V"⟩, 24), (⟨"PacketTracebackModel", "isTrialComplete", "()Z"⟩, 24), (⟨"PacketTracebackModel", "findDistance", "(I)Z"⟩, 24), (⟨"PacketTracebackModel", "combinations", "(I)I"⟩, 24), (⟨"PacketTracebackModel", "findWords", "(I)V"⟩, 24), (⟨"PacketTracebackModel", "fragmentAt", "(III)I"⟩, 24), (⟨"PacketTracebackModel", "findNodes", "(II)Z"⟩, 24), (⟨"PacketTracebackModel", "adds", "(III)Z"⟩, 24), (⟨"PacketTracebackModel", "isNode", "(I)Z"⟩, 24), (⟨"PacketTracebackModel", "routerOf", "(I)I"⟩, 24), (⟨"PacketTracebackModel", "routerWith", "(I)I"⟩, 24)]
theorem lw_r2 : ∀ q ∈ lw_privs_2, lw_okq q := List.forall_mem_cons.mpr ⟨lw_p16, List.forall_mem_cons.mpr ⟨lw_p17, List.forall_mem_cons.mpr ⟨lw_p18, List.forall_mem_cons.mpr ⟨lw_p19, List.forall_mem_cons.mpr ⟨lw_p20, List.forall_mem_cons.mpr ⟨lw_p21, List.forall_mem_cons.mpr ⟨lw_p22, List.forall_mem_cons.mpr ⟨lw_p23, List.forall_mem_cons.mpr ⟨lw_p24, List.forall_mem_cons.mpr ⟨lw_p25, List.forall_mem_cons.mpr ⟨lw_p26, List.forall_mem_cons.mpr ⟨lw_p27, List.forall_mem_cons.mpr ⟨lw_p28, List.forall_mem_cons.mpr ⟨lw_p29, fun _ h => absurd h List.not_mem_nil⟩⟩⟩⟩⟩⟩⟩⟩⟩⟩⟩⟩⟩⟩
def lw_privs : List (MethodName × Nat) := lw_privs_1 ++ (lw_privs_2)
def lw_tbl : List Cond := k2_sels lw_privs ++ tables_1
theorem lw_privs_ok : ∀ q ∈ lw_privs, lw_okq q := by
  show ∀ q ∈ lw_privs_1 ++ (lw_privs_2), lw_okq q
  exact List.forall_mem_append.mpr ⟨lw_r1, lw_r2⟩
end
section
theorem goodIn_r {big : List Cond} (ws : List Cond) (ps : List Nat) (hp : ws = ps.filterMap (fun i => big[i]?)) (h : ws.all goodWord = true) : GoodIn big ws := by
  intro w hw
  have h1 := List.all_eq_true.mp h w hw
  rw [hp] at hw
  obtain ⟨i, -, hi⟩ := List.mem_filterMap.mp hw
  have hm : w ∈ big := by first | exact List.mem_of_getElem? hi | exact List.getElem?_mem hi
  exact ⟨hm, good_of_word h1⟩
theorem goodIn_app {big a b : List Cond} (ha : GoodIn big a) (hb : GoodIn big b) : GoodIn big (a ++ b) := fun w h => (List.mem_append.mp h).elim (ha w) (hb w)
theorem goodIn_ca {big a b : List Cond} {c : Cond} (ha : GoodIn big (c :: a)) (hb : GoodIn big b) : GoodIn big (c :: (a ++ b)) := fun w h => (List.mem_cons.mp h).elim (fun e => ha w (List.mem_cons.mpr (Or.inl e))) (fun h => (List.mem_append.mp h).elim (fun h => ha w (List.mem_cons.mpr (Or.inr h))) (hb w))
theorem goodIn_sub {big ws : List Cond} (hm : ∀ w ∈ ws, w ∈ big) (h : ws.all goodWord = true) : GoodIn big ws := fun w hw => ⟨hm w hw, good_of_word (List.all_eq_true.mp h w hw)⟩

def RX0 : String := "PacketTraceback$Generator"
def TX0 : u_T := fun k => match k with
  | _ => ("PacketTraceback$Generator", "state", "I", false)
def tyX0 : Nat → FieldType := fun k => match k with
  | _ => .int
abbrev wsX00 : List Cond := u_ws RX0 TX0 1
theorem nmX0 : ∀ a, a < 1 → ∀ b, b < 1 → a ≠ b → (TX0 a).2.1 ≠ (TX0 b).2.1 := by decide +kernel
theorem tyX0_ok : ∀ k, k < 1 → parseFieldDescriptor (TX0 k).2.2.1 = some (tyX0 k) := by decide +kernel
abbrev cX0_init : ByteArray := prog_2_method_1_code
def yX0_init : MethodName := ⟨RX0, "<init>", "()V"⟩
abbrev cX0_state : ByteArray := prog_2_method_2_code
def yX0_state : MethodName := ⟨RX0, "state", "()I"⟩
abbrev cX0_restart : ByteArray := prog_2_method_3_code
def yX0_restart : MethodName := ⟨RX0, "restart", "(I)I"⟩
abbrev cX0_draw : ByteArray := prog_2_method_4_code
def yX0_draw : MethodName := ⟨RX0, "draw", "()I"⟩
def RX1 : String := "PacketTraceback$MarkRecord"
def TX1 : u_T := fun k => match k with
  | 0 => ("PacketTraceback$MarkRecord", "counts", "[I", true)
  | 1 => ("PacketTraceback$MarkRecord", "fragmentSets", "[I", true)
  | 2 => ("PacketTraceback$MarkRecord", "unmarkedPackets", "I", false)
  | _ => ("PacketTraceback$MarkRecord", "markedPackets", "I", false)
def tyX1 : Nat → FieldType := fun k => match k with
  | 0 => .array .int
  | 1 => .array .int
  | 2 => .int
  | _ => .int
abbrev wsX10 : List Cond := u_ws RX1 TX1 4
theorem nmX1 : ∀ a, a < 4 → ∀ b, b < 4 → a ≠ b → (TX1 a).2.1 ≠ (TX1 b).2.1 := by decide +kernel
theorem tyX1_ok : ∀ k, k < 4 → parseFieldDescriptor (TX1 k).2.2.1 = some (tyX1 k) := by decide +kernel
abbrev cX1_init : ByteArray := prog_3_method_1_code
def yX1_init : MethodName := ⟨RX1, "<init>", "()V"⟩
abbrev cX1_setPlace : ByteArray := prog_3_method_2_code
def yX1_setPlace : MethodName := ⟨RX1, "setPlace", "(II)I"⟩
abbrev cX1_countPlace : ByteArray := prog_3_method_3_code
def yX1_countPlace : MethodName := ⟨RX1, "countPlace", "(III)I"⟩
abbrev cX1_clear : ByteArray := prog_3_method_4_code
def yX1_clear : MethodName := ⟨RX1, "clear", "()V"⟩
abbrev cX1_note : ByteArray := prog_3_method_5_code
def yX1_note : MethodName := ⟨RX1, "note", "(LPacketTraceback$Packet;)V"⟩
abbrev cX1_received : ByteArray := prog_3_method_6_code
def yX1_received : MethodName := ⟨RX1, "received", "()I"⟩
abbrev cX1_unmarked : ByteArray := prog_3_method_7_code
def yX1_unmarked : MethodName := ⟨RX1, "unmarked", "()I"⟩
abbrev cX1_countOf : ByteArray := prog_3_method_8_code
def yX1_countOf : MethodName := ⟨RX1, "countOf", "(III)I"⟩
abbrev cX1_countAt : ByteArray := prog_3_method_9_code
def yX1_countAt : MethodName := ⟨RX1, "countAt", "(I)I"⟩
abbrev cX1_hasDistance : ByteArray := prog_3_method_10_code
def yX1_hasDistance : MethodName := ⟨RX1, "hasDistance", "(I)Z"⟩
abbrev cX1_differentFragments : ByteArray := prog_3_method_11_code
def yX1_differentFragments : MethodName := ⟨RX1, "differentFragments", "(II)I"⟩
abbrev cX1_combinations : ByteArray := prog_3_method_12_code
def yX1_combinations : MethodName := ⟨RX1, "combinations", "(I)I"⟩
abbrev cX1_holdsPart : ByteArray := prog_3_method_13_code
def yX1_holdsPart : MethodName := ⟨RX1, "holdsPart", "(III)Z"⟩
abbrev cX1_holdsWord : ByteArray := prog_3_method_14_code
def yX1_holdsWord : MethodName := ⟨RX1, "holdsWord", "(II)Z"⟩
def RX2 : String := "PacketTraceback$Network"
def TX2 : u_T := fun k => match k with
  | 0 => ("PacketTraceback$Network", "parents", "[I", true)
  | 1 => ("PacketTraceback$Network", "addresses", "[I", true)
  | 2 => ("PacketTraceback$Network", "depths", "[I", true)
  | _ => ("PacketTraceback$Network", "count", "I", false)
def tyX2 : Nat → FieldType := fun k => match k with
  | 0 => .array .int
  | 1 => .array .int
  | 2 => .array .int
  | _ => .int
abbrev wsX20 : List Cond := u_ws RX2 TX2 4
theorem nmX2 : ∀ a, a < 4 → ∀ b, b < 4 → a ≠ b → (TX2 a).2.1 ≠ (TX2 b).2.1 := by decide +kernel
theorem tyX2_ok : ∀ k, k < 4 → parseFieldDescriptor (TX2 k).2.2.1 = some (tyX2 k) := by decide +kernel
abbrev cX2_init : ByteArray := prog_4_method_1_code
def yX2_init : MethodName := ⟨RX2, "<init>", "()V"⟩
abbrev cX2_size : ByteArray := prog_4_method_2_code
def yX2_size : MethodName := ⟨RX2, "size", "()I"⟩
abbrev cX2_isEmpty : ByteArray := prog_4_method_3_code
def yX2_isEmpty : MethodName := ⟨RX2, "isEmpty", "()Z"⟩
abbrev cX2_has : ByteArray := prog_4_method_4_code
def yX2_has : MethodName := ⟨RX2, "has", "(I)Z"⟩
abbrev cX2_append : ByteArray := prog_4_method_5_code
def yX2_append : MethodName := ⟨RX2, "append", "(II)I"⟩
abbrev cX2_find : ByteArray := prog_4_method_6_code
def yX2_find : MethodName := ⟨RX2, "find", "(I)I"⟩
abbrev cX2_parentOf : ByteArray := prog_4_method_7_code
def yX2_parentOf : MethodName := ⟨RX2, "parentOf", "(I)I"⟩
abbrev cX2_addressOf : ByteArray := prog_4_method_8_code
def yX2_addressOf : MethodName := ⟨RX2, "addressOf", "(I)I"⟩
abbrev cX2_depthOf : ByteArray := prog_4_method_9_code
def yX2_depthOf : MethodName := ⟨RX2, "depthOf", "(I)I"⟩
abbrev cX2_wordAt : ByteArray := prog_4_method_10_code
def yX2_wordAt : MethodName := ⟨RX2, "wordAt", "(I)I"⟩
abbrev cX2_trueMarksOf : ByteArray := prog_4_method_11_code
def yX2_trueMarksOf : MethodName := ⟨RX2, "trueMarksOf", "(I)I"⟩
def RX3 : String := "PacketTraceback$NodeTable"
def TX3 : u_T := fun k => match k with
  | 0 => ("PacketTraceback$NodeTable", "addresses", "[I", true)
  | 1 => ("PacketTraceback$NodeTable", "distances", "[I", true)
  | 2 => ("PacketTraceback$NodeTable", "parents", "[I", true)
  | _ => ("PacketTraceback$NodeTable", "count", "I", false)
def tyX3 : Nat → FieldType := fun k => match k with
  | 0 => .array .int
  | 1 => .array .int
  | 2 => .array .int
  | _ => .int
abbrev wsX30 : List Cond := u_ws RX3 TX3 4
theorem nmX3 : ∀ a, a < 4 → ∀ b, b < 4 → a ≠ b → (TX3 a).2.1 ≠ (TX3 b).2.1 := by decide +kernel
theorem tyX3_ok : ∀ k, k < 4 → parseFieldDescriptor (TX3 k).2.2.1 = some (tyX3 k) := by decide +kernel
abbrev cX3_init : ByteArray := prog_5_method_1_code
def yX3_init : MethodName := ⟨RX3, "<init>", "()V"⟩
abbrev cX3_clear : ByteArray := prog_5_method_2_code
def yX3_clear : MethodName := ⟨RX3, "clear", "()V"⟩
abbrev cX3_size : ByteArray := prog_5_method_3_code
def yX3_size : MethodName := ⟨RX3, "size", "()I"⟩
abbrev cX3_has : ByteArray := prog_5_method_4_code
def yX3_has : MethodName := ⟨RX3, "has", "(I)Z"⟩
abbrev cX3_append : ByteArray := prog_5_method_5_code
def yX3_append : MethodName := ⟨RX3, "append", "(III)Z"⟩
abbrev cX3_addressOf : ByteArray := prog_5_method_6_code
def yX3_addressOf : MethodName := ⟨RX3, "addressOf", "(I)I"⟩
abbrev cX3_distanceOf : ByteArray := prog_5_method_7_code
def yX3_distanceOf : MethodName := ⟨RX3, "distanceOf", "(I)I"⟩
abbrev cX3_parentOf : ByteArray := prog_5_method_8_code
def yX3_parentOf : MethodName := ⟨RX3, "parentOf", "(I)I"⟩
def RX4 : String := "PacketTraceback$Packet"
def TX4 : u_T := fun k => match k with
  | 0 => ("PacketTraceback$Packet", "marked", "Z", false)
  | 1 => ("PacketTraceback$Packet", "markedByRouter", "Z", false)
  | 2 => ("PacketTraceback$Packet", "distance", "I", false)
  | 3 => ("PacketTraceback$Packet", "offset", "I", false)
  | _ => ("PacketTraceback$Packet", "fragment", "I", false)
def tyX4 : Nat → FieldType := fun k => match k with
  | 0 => .boolean
  | 1 => .boolean
  | 2 => .int
  | 3 => .int
  | _ => .int
abbrev wsX40 : List Cond := u_ws RX4 TX4 5
theorem nmX4 : ∀ a, a < 5 → ∀ b, b < 5 → a ≠ b → (TX4 a).2.1 ≠ (TX4 b).2.1 := by decide +kernel
theorem tyX4_ok : ∀ k, k < 5 → parseFieldDescriptor (TX4 k).2.2.1 = some (tyX4 k) := by decide +kernel
abbrev cX4_init : ByteArray := prog_6_method_1_code
def yX4_init : MethodName := ⟨RX4, "<init>", "()V"⟩
abbrev cX4_startUnmarked : ByteArray := prog_6_method_2_code
def yX4_startUnmarked : MethodName := ⟨RX4, "startUnmarked", "()V"⟩
abbrev cX4_startForged : ByteArray := prog_6_method_3_code
def yX4_startForged : MethodName := ⟨RX4, "startForged", "(III)V"⟩
abbrev cX4_takeMark : ByteArray := prog_6_method_4_code
def yX4_takeMark : MethodName := ⟨RX4, "takeMark", "(II)V"⟩
abbrev cX4_putMark : ByteArray := prog_6_method_5_code
def yX4_putMark : MethodName := ⟨RX4, "putMark", "(III)V"⟩
abbrev cX4_goOn : ByteArray := prog_6_method_6_code
def yX4_goOn : MethodName := ⟨RX4, "goOn", "(I)V"⟩
abbrev cX4_isMarked : ByteArray := prog_6_method_7_code
def yX4_isMarked : MethodName := ⟨RX4, "isMarked", "()Z"⟩
abbrev cX4_isMarkedByRouter : ByteArray := prog_6_method_8_code
def yX4_isMarkedByRouter : MethodName := ⟨RX4, "isMarkedByRouter", "()Z"⟩
abbrev cX4_distance : ByteArray := prog_6_method_9_code
def yX4_distance : MethodName := ⟨RX4, "distance", "()I"⟩
abbrev cX4_offset : ByteArray := prog_6_method_10_code
def yX4_offset : MethodName := ⟨RX4, "offset", "()I"⟩
abbrev cX4_fragmentValue : ByteArray := prog_6_method_11_code
def yX4_fragmentValue : MethodName := ⟨RX4, "fragmentValue", "()I"⟩
def RX5 : String := "PacketTraceback"
def TX5 : u_T := fun k => match k with
  | 0 => ("PacketTraceback", "network", "LPacketTraceback$Network;", true)
  | 1 => ("PacketTraceback", "generator", "LPacketTraceback$Generator;", true)
  | 2 => ("PacketTraceback", "packet", "LPacketTraceback$Packet;", true)
  | 3 => ("PacketTraceback", "marks", "LPacketTraceback$MarkRecord;", true)
  | 4 => ("PacketTraceback", "offsetsSeen", "[I", true)
  | 5 => ("PacketTraceback", "markingPercent", "I", false)
  | 6 => ("PacketTraceback", "nodes", "LPacketTraceback$NodeTable;", false)
  | _ => ("PacketTraceback", "spareNodes", "LPacketTraceback$NodeTable;", false)
def tyX5 : Nat → FieldType := fun k => match k with
  | 0 => .object "PacketTraceback$Network"
  | 1 => .object "PacketTraceback$Generator"
  | 2 => .object "PacketTraceback$Packet"
  | 3 => .object "PacketTraceback$MarkRecord"
  | 4 => .array .int
  | 5 => .int
  | 6 => .object "PacketTraceback$NodeTable"
  | _ => .object "PacketTraceback$NodeTable"
abbrev wsX50 : List Cond := u_ws RX5 TX5 8
theorem nmX5 : ∀ a, a < 8 → ∀ b, b < 8 → a ≠ b → (TX5 a).2.1 ≠ (TX5 b).2.1 := by decide +kernel
theorem tyX5_ok : ∀ k, k < 8 → parseFieldDescriptor (TX5 k).2.2.1 = some (tyX5 k) := by decide +kernel
abbrev cX5_init : ByteArray := prog_1_method_1_code
def yX5_init : MethodName := ⟨RX5, "<init>", "()V"⟩
abbrev cX5_addRouter : ByteArray := prog_1_method_2_code
def yX5_addRouter : MethodName := ⟨RX5, "addRouter", "(II)I"⟩
abbrev cX5_routerCount : ByteArray := prog_1_method_3_code
def yX5_routerCount : MethodName := ⟨RX5, "routerCount", "()I"⟩
abbrev cX5_depth : ByteArray := prog_1_method_4_code
def yX5_depth : MethodName := ⟨RX5, "depth", "(I)I"⟩
abbrev cX5_digest : ByteArray := prog_1_method_5_code
def yX5_digest : MethodName := ⟨RX5, "digest", "(I)I"⟩
abbrev cX5_fragment : ByteArray := prog_1_method_6_code
def yX5_fragment : MethodName := ⟨RX5, "fragment", "(II)I"⟩
abbrev cX5_setMarkingPercent : ByteArray := prog_1_method_7_code
def yX5_setMarkingPercent : MethodName := ⟨RX5, "setMarkingPercent", "(I)I"⟩
abbrev cX5_setSeed : ByteArray := prog_1_method_8_code
def yX5_setSeed : MethodName := ⟨RX5, "setSeed", "(I)I"⟩
abbrev cX5_clearMarks : ByteArray := prog_1_method_9_code
def yX5_clearMarks : MethodName := ⟨RX5, "clearMarks", "()I"⟩
abbrev cX5_sendPackets : ByteArray := prog_1_method_10_code
def yX5_sendPackets : MethodName := ⟨RX5, "sendPackets", "(II)I"⟩
abbrev cX5_sendForged : ByteArray := prog_1_method_11_code
def yX5_sendForged : MethodName := ⟨RX5, "sendForged", "(IIIII)I"⟩
abbrev cX5_packetsAtDistance : ByteArray := prog_1_method_12_code
def yX5_packetsAtDistance : MethodName := ⟨RX5, "packetsAtDistance", "(I)I"⟩
abbrev cX5_unmarkedCount : ByteArray := prog_1_method_13_code
def yX5_unmarkedCount : MethodName := ⟨RX5, "unmarkedCount", "()I"⟩
abbrev cX5_markCount : ByteArray := prog_1_method_14_code
def yX5_markCount : MethodName := ⟨RX5, "markCount", "(III)I"⟩
abbrev cX5_fragmentCount : ByteArray := prog_1_method_15_code
def yX5_fragmentCount : MethodName := ⟨RX5, "fragmentCount", "(II)I"⟩
abbrev cX5_greatestDistance : ByteArray := prog_1_method_16_code
def yX5_greatestDistance : MethodName := ⟨RX5, "greatestDistance", "()I"⟩
abbrev cX5_isPathComplete : ByteArray := prog_1_method_17_code
def yX5_isPathComplete : MethodName := ⟨RX5, "isPathComplete", "(I)I"⟩
abbrev cX5_packetsNeeded : ByteArray := prog_1_method_18_code
def yX5_packetsNeeded : MethodName := ⟨RX5, "packetsNeeded", "(II)I"⟩
abbrev cX5_reconstruct : ByteArray := prog_1_method_19_code
def yX5_reconstruct : MethodName := ⟨RX5, "reconstruct", "()I"⟩
abbrev cX5_nodeCount : ByteArray := prog_1_method_20_code
def yX5_nodeCount : MethodName := ⟨RX5, "nodeCount", "()I"⟩
abbrev cX5_nodeAddress : ByteArray := prog_1_method_21_code
def yX5_nodeAddress : MethodName := ⟨RX5, "nodeAddress", "(I)I"⟩
abbrev cX5_nodeDistance : ByteArray := prog_1_method_22_code
def yX5_nodeDistance : MethodName := ⟨RX5, "nodeDistance", "(I)I"⟩
abbrev cX5_nodeParent : ByteArray := prog_1_method_23_code
def yX5_nodeParent : MethodName := ⟨RX5, "nodeParent", "(I)I"⟩
abbrev cX5_nodeRouter : ByteArray := prog_1_method_24_code
def yX5_nodeRouter : MethodName := ⟨RX5, "nodeRouter", "(I)I"⟩
abbrev cX5_falseNodeCount : ByteArray := prog_1_method_25_code
def yX5_falseNodeCount : MethodName := ⟨RX5, "falseNodeCount", "()I"⟩
abbrev cX5_nodeOf : ByteArray := prog_1_method_26_code
def yX5_nodeOf : MethodName := ⟨RX5, "nodeOf", "(I)I"⟩
abbrev cX5_isBelow : ByteArray := prog_1_method_27_code
def yX5_isBelow : MethodName := ⟨RX5, "isBelow", "(II)Z"⟩
abbrev cX5_isFromOneTo : ByteArray := prog_1_method_28_code
def yX5_isFromOneTo : MethodName := ⟨RX5, "isFromOneTo", "(II)Z"⟩
abbrev cX5_isMark : ByteArray := prog_1_method_29_code
def yX5_isMark : MethodName := ⟨RX5, "isMark", "(III)Z"⟩
abbrev cX5_digestOf : ByteArray := prog_1_method_30_code
def yX5_digestOf : MethodName := ⟨RX5, "digestOf", "(I)I"⟩
abbrev cX5_wordOf : ByteArray := prog_1_method_31_code
def yX5_wordOf : MethodName := ⟨RX5, "wordOf", "(I)I"⟩
abbrev cX5_fragmentOf : ByteArray := prog_1_method_32_code
def yX5_fragmentOf : MethodName := ⟨RX5, "fragmentOf", "(II)I"⟩
abbrev cX5_deliver : ByteArray := prog_1_method_33_code
def yX5_deliver : MethodName := ⟨RX5, "deliver", "(I)I"⟩
abbrev cX5_carryToVictim : ByteArray := prog_1_method_34_code
def yX5_carryToVictim : MethodName := ⟨RX5, "carryToVictim", "(I)V"⟩
abbrev cX5_passRouter : ByteArray := prog_1_method_35_code
def yX5_passRouter : MethodName := ⟨RX5, "passRouter", "(I)V"⟩
abbrev cX5_tryPackets : ByteArray := prog_1_method_36_code
def yX5_tryPackets : MethodName := ⟨RX5, "tryPackets", "(II)I"⟩
abbrev cX5_isNewOnPath : ByteArray := prog_1_method_37_code
def yX5_isNewOnPath : MethodName := ⟨RX5, "isNewOnPath", "()Z"⟩
abbrev cX5_findTree : ByteArray := prog_1_method_38_code
def yX5_findTree : MethodName := ⟨RX5, "findTree", "()Z"⟩
abbrev cX5_findLevel : ByteArray := prog_1_method_39_code
def yX5_findLevel : MethodName := ⟨RX5, "findLevel", "(III)Z"⟩
abbrev cX5_findChildren : ByteArray := prog_1_method_40_code
def yX5_findChildren : MethodName := ⟨RX5, "findChildren", "(III)Z"⟩
abbrev cX5_routerBehind : ByteArray := prog_1_method_41_code
def yX5_routerBehind : MethodName := ⟨RX5, "routerBehind", "(I)I"⟩
def RX6 : String := "PacketTracebackModel"
def TX6 : u_T := fun k => match k with
  | 0 => ("PacketTracebackModel", "routers", "I", false)
  | 1 => ("PacketTracebackModel", "parentOf", "[I", true)
  | 2 => ("PacketTracebackModel", "addressOf", "[I", true)
  | 3 => ("PacketTracebackModel", "depthOf", "[I", true)
  | 4 => ("PacketTracebackModel", "percent", "I", false)
  | 5 => ("PacketTracebackModel", "random", "I", false)
  | 6 => ("PacketTracebackModel", "distance", "I", false)
  | 7 => ("PacketTracebackModel", "offset", "I", false)
  | 8 => ("PacketTracebackModel", "value", "I", false)
  | 9 => ("PacketTracebackModel", "isMade", "Z", false)
  | 10 => ("PacketTracebackModel", "marks", "[I", true)
  | 11 => ("PacketTracebackModel", "received", "I", false)
  | 12 => ("PacketTracebackModel", "unmarked", "I", false)
  | 13 => ("PacketTracebackModel", "missing", "[I", true)
  | 14 => ("PacketTracebackModel", "nodes", "I", false)
  | 15 => ("PacketTracebackModel", "nodeAddresses", "[I", true)
  | 16 => ("PacketTracebackModel", "nodeDistances", "[I", true)
  | 17 => ("PacketTracebackModel", "nodeParents", "[I", true)
  | 18 => ("PacketTracebackModel", "found", "I", false)
  | 19 => ("PacketTracebackModel", "foundAddress", "[I", true)
  | 20 => ("PacketTracebackModel", "foundDistance", "[I", true)
  | 21 => ("PacketTracebackModel", "foundParent", "[I", true)
  | 22 => ("PacketTracebackModel", "words", "I", false)
  | _ => ("PacketTracebackModel", "wordAt", "[I", true)
def tyX6 : Nat → FieldType := fun k => match k with
  | 0 => .int
  | 1 => .array .int
  | 2 => .array .int
  | 3 => .array .int
  | 4 => .int
  | 5 => .int
  | 6 => .int
  | 7 => .int
  | 8 => .int
  | 9 => .boolean
  | 10 => .array .int
  | 11 => .int
  | 12 => .int
  | 13 => .array .int
  | 14 => .int
  | 15 => .array .int
  | 16 => .array .int
  | 17 => .array .int
  | 18 => .int
  | 19 => .array .int
  | 20 => .array .int
  | 21 => .array .int
  | 22 => .int
  | _ => .array .int
abbrev wsX60 : List Cond := u_ws RX6 TX6 24
theorem nmX6 : ∀ a, a < 24 → ∀ b, b < 24 → a ≠ b → (TX6 a).2.1 ≠ (TX6 b).2.1 := by decide +kernel
theorem tyX6_ok : ∀ k, k < 24 → parseFieldDescriptor (TX6 k).2.2.1 = some (tyX6 k) := by decide +kernel
abbrev cX6_init : ByteArray := prog_8_method_1_code
def yX6_init : MethodName := ⟨RX6, "<init>", "()V"⟩
abbrev cX6_within : ByteArray := prog_8_method_2_code
def yX6_within : MethodName := ⟨RX6, "within", "(III)Z"⟩
abbrev cX6_isRouter : ByteArray := prog_8_method_3_code
def yX6_isRouter : MethodName := ⟨RX6, "isRouter", "(I)Z"⟩
abbrev cX6_isAddress : ByteArray := prog_8_method_4_code
def yX6_isAddress : MethodName := ⟨RX6, "isAddress", "(I)Z"⟩
abbrev cX6_isUsed : ByteArray := prog_8_method_5_code
def yX6_isUsed : MethodName := ⟨RX6, "isUsed", "(I)Z"⟩
abbrev cX6_addRouter : ByteArray := prog_8_method_6_code
def yX6_addRouter : MethodName := ⟨RX6, "addRouter", "(II)I"⟩
abbrev cX6_routerCount : ByteArray := prog_8_method_7_code
def yX6_routerCount : MethodName := ⟨RX6, "routerCount", "()I"⟩
abbrev cX6_depth : ByteArray := prog_8_method_8_code
def yX6_depth : MethodName := ⟨RX6, "depth", "(I)I"⟩
abbrev cX6_digestOf : ByteArray := prog_8_method_9_code
def yX6_digestOf : MethodName := ⟨RX6, "digestOf", "(I)I"⟩
abbrev cX6_wordOf : ByteArray := prog_8_method_10_code
def yX6_wordOf : MethodName := ⟨RX6, "wordOf", "(I)I"⟩
abbrev cX6_fragmentOf : ByteArray := prog_8_method_11_code
def yX6_fragmentOf : MethodName := ⟨RX6, "fragmentOf", "(II)I"⟩
abbrev cX6_digest : ByteArray := prog_8_method_12_code
def yX6_digest : MethodName := ⟨RX6, "digest", "(I)I"⟩
abbrev cX6_fragment : ByteArray := prog_8_method_13_code
def yX6_fragment : MethodName := ⟨RX6, "fragment", "(II)I"⟩
abbrev cX6_setMarkingPercent : ByteArray := prog_8_method_14_code
def yX6_setMarkingPercent : MethodName := ⟨RX6, "setMarkingPercent", "(I)I"⟩
abbrev cX6_setSeed : ByteArray := prog_8_method_15_code
def yX6_setSeed : MethodName := ⟨RX6, "setSeed", "(I)I"⟩
abbrev cX6_draws : ByteArray := prog_8_method_16_code
def yX6_draws : MethodName := ⟨RX6, "draws", "()I"⟩
abbrev cX6_process : ByteArray := prog_8_method_17_code
def yX6_process : MethodName := ⟨RX6, "process", "(I)V"⟩
abbrev cX6_travels : ByteArray := prog_8_method_18_code
def yX6_travels : MethodName := ⟨RX6, "travels", "(I)V"⟩
abbrev cX6_placeOf : ByteArray := prog_8_method_19_code
def yX6_placeOf : MethodName := ⟨RX6, "placeOf", "(III)I"⟩
abbrev cX6_records : ByteArray := prog_8_method_20_code
def yX6_records : MethodName := ⟨RX6, "records", "()V"⟩
abbrev cX6_clearMarks : ByteArray := prog_8_method_21_code
def yX6_clearMarks : MethodName := ⟨RX6, "clearMarks", "()I"⟩
abbrev cX6_sendPackets : ByteArray := prog_8_method_22_code
def yX6_sendPackets : MethodName := ⟨RX6, "sendPackets", "(II)I"⟩
abbrev cX6_isMark : ByteArray := prog_8_method_23_code
def yX6_isMark : MethodName := ⟨RX6, "isMark", "(III)Z"⟩
abbrev cX6_sendForged : ByteArray := prog_8_method_24_code
def yX6_sendForged : MethodName := ⟨RX6, "sendForged", "(IIIII)I"⟩
abbrev cX6_packetsAt : ByteArray := prog_8_method_25_code
def yX6_packetsAt : MethodName := ⟨RX6, "packetsAt", "(I)I"⟩
abbrev cX6_packetsAtDistance : ByteArray := prog_8_method_26_code
def yX6_packetsAtDistance : MethodName := ⟨RX6, "packetsAtDistance", "(I)I"⟩
abbrev cX6_unmarkedCount : ByteArray := prog_8_method_27_code
def yX6_unmarkedCount : MethodName := ⟨RX6, "unmarkedCount", "()I"⟩
abbrev cX6_markCount : ByteArray := prog_8_method_28_code
def yX6_markCount : MethodName := ⟨RX6, "markCount", "(III)I"⟩
abbrev cX6_different : ByteArray := prog_8_method_29_code
def yX6_different : MethodName := ⟨RX6, "different", "(II)I"⟩
abbrev cX6_fragmentCount : ByteArray := prog_8_method_30_code
def yX6_fragmentCount : MethodName := ⟨RX6, "fragmentCount", "(II)I"⟩
abbrev cX6_greatestDistance : ByteArray := prog_8_method_31_code
def yX6_greatestDistance : MethodName := ⟨RX6, "greatestDistance", "()I"⟩
abbrev cX6_trueFragment : ByteArray := prog_8_method_32_code
def yX6_trueFragment : MethodName := ⟨RX6, "trueFragment", "(II)I"⟩
abbrev cX6_isPathComplete : ByteArray := prog_8_method_33_code
def yX6_isPathComplete : MethodName := ⟨RX6, "isPathComplete", "(I)I"⟩
abbrev cX6_startsTrial : ByteArray := prog_8_method_34_code
def yX6_startsTrial : MethodName := ⟨RX6, "startsTrial", "(I)V"⟩
abbrev cX6_isTrialComplete : ByteArray := prog_8_method_35_code
def yX6_isTrialComplete : MethodName := ⟨RX6, "isTrialComplete", "()Z"⟩
abbrev cX6_packetsNeeded : ByteArray := prog_8_method_36_code
def yX6_packetsNeeded : MethodName := ⟨RX6, "packetsNeeded", "(II)I"⟩
abbrev cX6_combinations : ByteArray := prog_8_method_37_code
def yX6_combinations : MethodName := ⟨RX6, "combinations", "(I)I"⟩
abbrev cX6_fragmentAt : ByteArray := prog_8_method_38_code
def yX6_fragmentAt : MethodName := ⟨RX6, "fragmentAt", "(III)I"⟩
abbrev cX6_findWords : ByteArray := prog_8_method_39_code
def yX6_findWords : MethodName := ⟨RX6, "findWords", "(I)V"⟩
abbrev cX6_isWord : ByteArray := prog_8_method_40_code
def yX6_isWord : MethodName := ⟨RX6, "isWord", "(I)Z"⟩
abbrev cX6_adds : ByteArray := prog_8_method_41_code
def yX6_adds : MethodName := ⟨RX6, "adds", "(III)Z"⟩
abbrev cX6_findNodes : ByteArray := prog_8_method_42_code
def yX6_findNodes : MethodName := ⟨RX6, "findNodes", "(II)Z"⟩
abbrev cX6_findDistance : ByteArray := prog_8_method_43_code
def yX6_findDistance : MethodName := ⟨RX6, "findDistance", "(I)Z"⟩
abbrev cX6_reconstruct : ByteArray := prog_8_method_44_code
def yX6_reconstruct : MethodName := ⟨RX6, "reconstruct", "()I"⟩
abbrev cX6_nodeCount : ByteArray := prog_8_method_45_code
def yX6_nodeCount : MethodName := ⟨RX6, "nodeCount", "()I"⟩
abbrev cX6_isNode : ByteArray := prog_8_method_46_code
def yX6_isNode : MethodName := ⟨RX6, "isNode", "(I)Z"⟩
abbrev cX6_nodeAddress : ByteArray := prog_8_method_47_code
def yX6_nodeAddress : MethodName := ⟨RX6, "nodeAddress", "(I)I"⟩
abbrev cX6_nodeDistance : ByteArray := prog_8_method_48_code
def yX6_nodeDistance : MethodName := ⟨RX6, "nodeDistance", "(I)I"⟩
abbrev cX6_nodeParent : ByteArray := prog_8_method_49_code
def yX6_nodeParent : MethodName := ⟨RX6, "nodeParent", "(I)I"⟩
abbrev cX6_routerWith : ByteArray := prog_8_method_50_code
def yX6_routerWith : MethodName := ⟨RX6, "routerWith", "(I)I"⟩
abbrev cX6_routerOf : ByteArray := prog_8_method_51_code
def yX6_routerOf : MethodName := ⟨RX6, "routerOf", "(I)I"⟩
abbrev cX6_nodeRouter : ByteArray := prog_8_method_52_code
def yX6_nodeRouter : MethodName := ⟨RX6, "nodeRouter", "(I)I"⟩
abbrev cX6_falseNodeCount : ByteArray := prog_8_method_53_code
def yX6_falseNodeCount : MethodName := ⟨RX6, "falseNodeCount", "()I"⟩
abbrev cX6_nodeOf : ByteArray := prog_8_method_54_code
def yX6_nodeOf : MethodName := ⟨RX6, "nodeOf", "(I)I"⟩
def RJ6 : String := "java/lang/Integer"
def TJ6 : u_T := fun k => match k with
  | _ => ("", "", "", false)
def tyJ6 : Nat → FieldType := fun k => match k with
  | _ => .int
abbrev wsJ60 : List Cond := u_ws RJ6 TJ6 0
theorem nmJ6 : ∀ a, a < 0 → ∀ b, b < 0 → a ≠ b → (TJ6 a).2.1 ≠ (TJ6 b).2.1 := by decide +kernel
theorem tyJ6_ok : ∀ k, k < 0 → parseFieldDescriptor (TJ6 k).2.2.1 = some (tyJ6 k) := by decide +kernel
abbrev cJ6_bitCount_0f7a4 : ByteArray := prog_9_method_49_code
def yJ6_bitCount_0f7a4 : MethodName := ⟨RJ6, "bitCount", "(I)I"⟩
def RJ7 : String := "java/util/Arrays"
def TJ7 : u_T := fun k => match k with
  | _ => ("", "", "", false)
def tyJ7 : Nat → FieldType := fun k => match k with
  | _ => .int
abbrev wsJ70 : List Cond := u_ws RJ7 TJ7 0
theorem nmJ7 : ∀ a, a < 0 → ∀ b, b < 0 → a ≠ b → (TJ7 a).2.1 ≠ (TJ7 b).2.1 := by decide +kernel
theorem tyJ7_ok : ∀ k, k < 0 → parseFieldDescriptor (TJ7 k).2.2.1 = some (tyJ7 k) := by decide +kernel
abbrev cJ7_fill_53178 : ByteArray := prog_10_method_103_code
def yJ7_fill_53178 : MethodName := ⟨RJ7, "fill", "([II)V"⟩
def RL : String := "PacketTracebackLaw"
abbrev cL_law : ByteArray := code
def yL_law : MethodName := ⟨RL, "law", "([I)Z"⟩
def wsX0_init : List Cond := .code yX0_init cX0_init 1 none :: ([.methodLink RX0 1 objectInit, .instanceMethod objectInit, .code objectInit ⟨#[0xb1]⟩ 1 none, .fieldLink RX0 7 "PacketTraceback$Generator" "state" "I"] ++ wsX00)
def wsX0_state : List Cond := .code yX0_state cX0_state 1 (some .int) :: ([.fieldLink RX0 7 "PacketTraceback$Generator" "state" "I"] ++ wsX00)
def wsX0_restart : List Cond := .code yX0_restart cX0_restart 3 (some .int) :: ([.fieldLink RX0 7 "PacketTraceback$Generator" "state" "I"] ++ wsX00)
def wsX0_draw : List Cond := .code yX0_draw cX0_draw 1 (some .int) :: ([.fieldLink RX0 7 "PacketTraceback$Generator" "state" "I", .constant RX0 13 (1103515245)] ++ wsX00)
def wsX1_init : List Cond := .code yX1_init cX1_init 1 none :: ([.methodLink RX1 3 objectInit, .instanceMethod objectInit, .code objectInit ⟨#[0xb1]⟩ 1 none, .arrayClass .int, .fieldLink RX1 9 "PacketTraceback$MarkRecord" "counts" "[I", .fieldLink RX1 15 "PacketTraceback$MarkRecord" "fragmentSets" "[I", .fieldLink RX1 18 "PacketTraceback$MarkRecord" "unmarkedPackets" "I", .fieldLink RX1 22 "PacketTraceback$MarkRecord" "markedPackets" "I"] ++ wsX10)
def wsX1_setPlace : List Cond := .code yX1_setPlace cX1_setPlace 2 (some .int) :: ([])
def wsX1_countPlace : List Cond := .code yX1_countPlace cX1_countPlace 3 (some .int) :: ([.methodLink RX1 25 yX1_setPlace, .static yX1_setPlace, .initialized RX1, .code yX1_setPlace cX1_setPlace 2 (some .int)])
def wsJ7_fill_53178 : List Cond := .code yJ7_fill_53178 cJ7_fill_53178 4 none :: ([])
def wsX1_clear : List Cond := .code yX1_clear cX1_clear 1 none :: ([.fieldLink RX1 9 "PacketTraceback$MarkRecord" "counts" "[I", .fieldLink RX1 15 "PacketTraceback$MarkRecord" "fragmentSets" "[I", .fieldLink RX1 18 "PacketTraceback$MarkRecord" "unmarkedPackets" "I", .fieldLink RX1 22 "PacketTraceback$MarkRecord" "markedPackets" "I", .methodLink RX1 29 yJ7_fill_53178, .static yJ7_fill_53178, .initialized RJ7, .code yJ7_fill_53178 cJ7_fill_53178 4 none] ++ wsX10)
def wsX4_isMarked : List Cond := .code yX4_isMarked cX4_isMarked 1 (some .boolean) :: ([.fieldLink RX4 9 "PacketTraceback$Packet" "marked" "Z"] ++ wsX40)
def wsX4_fragmentValue : List Cond := .code yX4_fragmentValue cX4_fragmentValue 1 (some .int) :: ([.fieldLink RX4 25 "PacketTraceback$Packet" "fragment" "I"] ++ wsX40)
def wsX4_distance : List Cond := .code yX4_distance cX4_distance 1 (some .int) :: ([.fieldLink RX4 18 "PacketTraceback$Packet" "distance" "I"] ++ wsX40)
def wsX4_offset : List Cond := .code yX4_offset cX4_offset 1 (some .int) :: ([.fieldLink RX4 22 "PacketTraceback$Packet" "offset" "I"] ++ wsX40)
def wsX1_note_r1 : List Cond := [Cond.fieldLink RX1 18 "PacketTraceback$MarkRecord" "unmarkedPackets" "I", Cond.fieldLink RX1 22 "PacketTraceback$MarkRecord" "markedPackets" "I", Cond.fieldLink RX1 9 "PacketTraceback$MarkRecord" "counts" "[I", Cond.fieldLink RX1 15 "PacketTraceback$MarkRecord" "fragmentSets" "[I", Cond.methodLink RX1 35 yX4_isMarked, Cond.instanceMethod yX4_isMarked, Cond.selects RX4 yX4_isMarked yX4_isMarked, Cond.initialized RX4, Cond.code yX4_isMarked cX4_isMarked 1 (some .boolean), Cond.fieldLink RX4 9 "PacketTraceback$Packet" "marked" "Z", Cond.methodLink RX1 41 yX4_fragmentValue, Cond.instanceMethod yX4_fragmentValue, Cond.selects RX4 yX4_fragmentValue yX4_fragmentValue, Cond.code yX4_fragmentValue cX4_fragmentValue 1 (some .int), Cond.fieldLink RX4 25 "PacketTraceback$Packet" "fragment" "I", Cond.methodLink RX1 45 yX4_distance, Cond.instanceMethod yX4_distance, Cond.selects RX4 yX4_distance yX4_distance, Cond.code yX4_distance cX4_distance 1 (some .int), Cond.fieldLink RX4 18 "PacketTraceback$Packet" "distance" "I", Cond.methodLink RX1 48 yX4_offset, Cond.instanceMethod yX4_offset, Cond.selects RX4 yX4_offset yX4_offset, Cond.code yX4_offset cX4_offset 1 (some .int)]
def wsX1_note_r2 : List Cond := [Cond.fieldLink RX4 22 "PacketTraceback$Packet" "offset" "I", Cond.methodLink RX1 51 yX1_countPlace, Cond.static yX1_countPlace, Cond.initialized RX1, Cond.code yX1_countPlace cX1_countPlace 3 (some .int), Cond.methodLink RX1 25 yX1_setPlace, Cond.static yX1_setPlace, Cond.code yX1_setPlace cX1_setPlace 2 (some .int)]
def wsX1_note : List Cond := .code yX1_note cX1_note 3 none :: ((wsX1_note_r1 ++ wsX1_note_r2) ++ wsX10 ++ wsX40)
def wsX1_received : List Cond := .code yX1_received cX1_received 1 (some .int) :: ([.fieldLink RX1 18 "PacketTraceback$MarkRecord" "unmarkedPackets" "I", .fieldLink RX1 22 "PacketTraceback$MarkRecord" "markedPackets" "I"] ++ wsX10)
def wsX1_unmarked : List Cond := .code yX1_unmarked cX1_unmarked 1 (some .int) :: ([.fieldLink RX1 18 "PacketTraceback$MarkRecord" "unmarkedPackets" "I"] ++ wsX10)
def wsX1_countOf : List Cond := .code yX1_countOf cX1_countOf 4 (some .int) :: ([.fieldLink RX1 9 "PacketTraceback$MarkRecord" "counts" "[I", .methodLink RX1 51 yX1_countPlace, .static yX1_countPlace, .initialized RX1, .code yX1_countPlace cX1_countPlace 3 (some .int), .methodLink RX1 25 yX1_setPlace, .static yX1_setPlace, .code yX1_setPlace cX1_setPlace 2 (some .int)] ++ wsX10)
def wsX1_countAt : List Cond := .code yX1_countAt cX1_countAt 5 (some .int) :: ([.methodLink RX1 55 yX1_countOf, .instanceMethod yX1_countOf, .selects RX1 yX1_countOf yX1_countOf, .initialized RX1, .code yX1_countOf cX1_countOf 4 (some .int), .fieldLink RX1 9 "PacketTraceback$MarkRecord" "counts" "[I", .methodLink RX1 51 yX1_countPlace, .static yX1_countPlace, .code yX1_countPlace cX1_countPlace 3 (some .int), .methodLink RX1 25 yX1_setPlace, .static yX1_setPlace, .code yX1_setPlace cX1_setPlace 2 (some .int)] ++ wsX10)
def wsX1_hasDistance : List Cond := .code yX1_hasDistance cX1_hasDistance 3 (some .boolean) :: ([.fieldLink RX1 15 "PacketTraceback$MarkRecord" "fragmentSets" "[I", .methodLink RX1 25 yX1_setPlace, .static yX1_setPlace, .initialized RX1, .code yX1_setPlace cX1_setPlace 2 (some .int)] ++ wsX10)
def wsJ6_bitCount_0f7a4 : List Cond := .code yJ6_bitCount_0f7a4 cJ6_bitCount_0f7a4 1 (some .int) :: ([.constant RJ6 265 (1431655765), .constant RJ6 266 (858993459), .constant RJ6 267 (252645135)])
def wsX1_differentFragments : List Cond := .code yX1_differentFragments cX1_differentFragments 3 (some .int) :: ([.fieldLink RX1 15 "PacketTraceback$MarkRecord" "fragmentSets" "[I", .methodLink RX1 25 yX1_setPlace, .static yX1_setPlace, .initialized RX1, .code yX1_setPlace cX1_setPlace 2 (some .int), .methodLink RX1 58 yJ6_bitCount_0f7a4, .static yJ6_bitCount_0f7a4, .initialized RJ6, .code yJ6_bitCount_0f7a4 cJ6_bitCount_0f7a4 1 (some .int), .constant RJ6 265 (1431655765), .constant RJ6 266 (858993459), .constant RJ6 267 (252645135)] ++ wsX10)
def wsX1_combinations : List Cond := .code yX1_combinations cX1_combinations 4 (some .int) :: ([.methodLink RX1 64 yX1_differentFragments, .instanceMethod yX1_differentFragments, .selects RX1 yX1_differentFragments yX1_differentFragments, .initialized RX1, .code yX1_differentFragments cX1_differentFragments 3 (some .int), .fieldLink RX1 15 "PacketTraceback$MarkRecord" "fragmentSets" "[I", .methodLink RX1 25 yX1_setPlace, .static yX1_setPlace, .code yX1_setPlace cX1_setPlace 2 (some .int), .methodLink RX1 58 yJ6_bitCount_0f7a4, .static yJ6_bitCount_0f7a4, .initialized RJ6, .code yJ6_bitCount_0f7a4 cJ6_bitCount_0f7a4 1 (some .int), .constant RJ6 265 (1431655765), .constant RJ6 266 (858993459), .constant RJ6 267 (252645135)] ++ wsX10)
def wsX5_fragmentOf : List Cond := .code yX5_fragmentOf cX5_fragmentOf 2 (some .int) :: ([])
def wsX1_holdsPart : List Cond := .code yX1_holdsPart cX1_holdsPart 5 (some .boolean) :: ([.fieldLink RX1 15 "PacketTraceback$MarkRecord" "fragmentSets" "[I", .methodLink RX1 25 yX1_setPlace, .static yX1_setPlace, .initialized RX1, .code yX1_setPlace cX1_setPlace 2 (some .int), .static yX5_fragmentOf, .initialized RX5, .code yX5_fragmentOf cX5_fragmentOf 2 (some .int)] ++ wsX10)
def wsX1_holdsWord : List Cond := .code yX1_holdsWord cX1_holdsWord 4 (some .boolean) :: ([.methodLink RX1 70 yX1_holdsPart, .instanceMethod yX1_holdsPart, .selects RX1 yX1_holdsPart yX1_holdsPart, .initialized RX1, .code yX1_holdsPart cX1_holdsPart 5 (some .boolean), .fieldLink RX1 15 "PacketTraceback$MarkRecord" "fragmentSets" "[I", .methodLink RX1 25 yX1_setPlace, .static yX1_setPlace, .code yX1_setPlace cX1_setPlace 2 (some .int), .static yX5_fragmentOf, .initialized RX5, .code yX5_fragmentOf cX5_fragmentOf 2 (some .int)] ++ wsX10)
def wsX2_init : List Cond := .code yX2_init cX2_init 1 none :: ([.methodLink RX2 3 objectInit, .instanceMethod objectInit, .code objectInit ⟨#[0xb1]⟩ 1 none, .arrayClass .int, .fieldLink RX2 9 "PacketTraceback$Network" "parents" "[I", .fieldLink RX2 15 "PacketTraceback$Network" "addresses" "[I", .fieldLink RX2 18 "PacketTraceback$Network" "depths" "[I", .fieldLink RX2 21 "PacketTraceback$Network" "count" "I"] ++ wsX20)
def wsX2_size : List Cond := .code yX2_size cX2_size 1 (some .int) :: ([.fieldLink RX2 21 "PacketTraceback$Network" "count" "I"] ++ wsX20)
def wsX2_isEmpty : List Cond := .code yX2_isEmpty cX2_isEmpty 1 (some .boolean) :: ([.fieldLink RX2 21 "PacketTraceback$Network" "count" "I"] ++ wsX20)
def wsX5_isBelow : List Cond := .code yX5_isBelow cX5_isBelow 2 (some .boolean) :: ([])
def wsX2_has : List Cond := .code yX2_has cX2_has 2 (some .boolean) :: ([.fieldLink RX2 21 "PacketTraceback$Network" "count" "I", .static yX5_isBelow, .initialized RX5, .code yX5_isBelow cX5_isBelow 2 (some .boolean)] ++ wsX20)
def wsX2_depthOf : List Cond := .code yX2_depthOf cX2_depthOf 2 (some .int) :: ([.fieldLink RX2 18 "PacketTraceback$Network" "depths" "[I", .methodLink RX2 33 yX2_has, .instanceMethod yX2_has, .selects RX2 yX2_has yX2_has, .initialized RX2, .code yX2_has cX2_has 2 (some .boolean), .fieldLink RX2 21 "PacketTraceback$Network" "count" "I", .static yX5_isBelow, .initialized RX5, .code yX5_isBelow cX5_isBelow 2 (some .boolean)] ++ wsX20)
def wsX2_append : List Cond := .code yX2_append cX2_append 5 (some .int) :: ([.fieldLink RX2 21 "PacketTraceback$Network" "count" "I", .fieldLink RX2 9 "PacketTraceback$Network" "parents" "[I", .fieldLink RX2 18 "PacketTraceback$Network" "depths" "[I", .fieldLink RX2 15 "PacketTraceback$Network" "addresses" "[I", .static yX5_isBelow, .initialized RX5, .code yX5_isBelow cX5_isBelow 2 (some .boolean), .methodLink RX2 29 yX2_depthOf, .instanceMethod yX2_depthOf, .selects RX2 yX2_depthOf yX2_depthOf, .initialized RX2, .code yX2_depthOf cX2_depthOf 2 (some .int), .methodLink RX2 33 yX2_has, .instanceMethod yX2_has, .selects RX2 yX2_has yX2_has, .code yX2_has cX2_has 2 (some .boolean)] ++ wsX20)
def wsX2_find : List Cond := .code yX2_find cX2_find 3 (some .int) :: ([.fieldLink RX2 21 "PacketTraceback$Network" "count" "I", .fieldLink RX2 15 "PacketTraceback$Network" "addresses" "[I"] ++ wsX20)
def wsX2_parentOf : List Cond := .code yX2_parentOf cX2_parentOf 2 (some .int) :: ([.fieldLink RX2 9 "PacketTraceback$Network" "parents" "[I", .methodLink RX2 33 yX2_has, .instanceMethod yX2_has, .selects RX2 yX2_has yX2_has, .initialized RX2, .code yX2_has cX2_has 2 (some .boolean), .fieldLink RX2 21 "PacketTraceback$Network" "count" "I", .static yX5_isBelow, .initialized RX5, .code yX5_isBelow cX5_isBelow 2 (some .boolean)] ++ wsX20)
def wsX2_addressOf : List Cond := .code yX2_addressOf cX2_addressOf 2 (some .int) :: ([.fieldLink RX2 15 "PacketTraceback$Network" "addresses" "[I", .methodLink RX2 33 yX2_has, .instanceMethod yX2_has, .selects RX2 yX2_has yX2_has, .initialized RX2, .code yX2_has cX2_has 2 (some .boolean), .fieldLink RX2 21 "PacketTraceback$Network" "count" "I", .static yX5_isBelow, .initialized RX5, .code yX5_isBelow cX5_isBelow 2 (some .boolean)] ++ wsX20)
def wsX5_digestOf : List Cond := .code yX5_digestOf cX5_digestOf 1 (some .int) :: ([])
def wsX5_wordOf : List Cond := .code yX5_wordOf cX5_wordOf 1 (some .int) :: ([.methodLink RX5 82 yX5_digestOf, .static yX5_digestOf, .initialized RX5, .code yX5_digestOf cX5_digestOf 1 (some .int)])
def wsX2_wordAt : List Cond := .code yX2_wordAt cX2_wordAt 2 (some .int) :: ([.methodLink RX2 37 yX2_addressOf, .instanceMethod yX2_addressOf, .selects RX2 yX2_addressOf yX2_addressOf, .initialized RX2, .code yX2_addressOf cX2_addressOf 2 (some .int), .fieldLink RX2 15 "PacketTraceback$Network" "addresses" "[I", .methodLink RX2 33 yX2_has, .instanceMethod yX2_has, .selects RX2 yX2_has yX2_has, .code yX2_has cX2_has 2 (some .boolean), .fieldLink RX2 21 "PacketTraceback$Network" "count" "I", .static yX5_isBelow, .initialized RX5, .code yX5_isBelow cX5_isBelow 2 (some .boolean), .static yX5_wordOf, .code yX5_wordOf cX5_wordOf 1 (some .int), .methodLink RX5 82 yX5_digestOf, .static yX5_digestOf, .code yX5_digestOf cX5_digestOf 1 (some .int)] ++ wsX20)
def wsX2_trueMarksOf_r1 : List Cond := [Cond.methodLink RX2 43 yX2_parentOf, Cond.instanceMethod yX2_parentOf, Cond.selects RX2 yX2_parentOf yX2_parentOf, Cond.initialized RX2, Cond.code yX2_parentOf cX2_parentOf 2 (some .int), Cond.fieldLink RX2 9 "PacketTraceback$Network" "parents" "[I", Cond.methodLink RX2 33 yX2_has, Cond.instanceMethod yX2_has, Cond.selects RX2 yX2_has yX2_has, Cond.code yX2_has cX2_has 2 (some .boolean), Cond.fieldLink RX2 21 "PacketTraceback$Network" "count" "I", Cond.static yX5_isBelow, Cond.initialized RX5, Cond.code yX5_isBelow cX5_isBelow 2 (some .boolean), Cond.methodLink RX2 46 yX2_wordAt, Cond.instanceMethod yX2_wordAt, Cond.selects RX2 yX2_wordAt yX2_wordAt, Cond.code yX2_wordAt cX2_wordAt 2 (some .int), Cond.methodLink RX2 37 yX2_addressOf, Cond.instanceMethod yX2_addressOf, Cond.selects RX2 yX2_addressOf yX2_addressOf, Cond.code yX2_addressOf cX2_addressOf 2 (some .int), Cond.fieldLink RX2 15 "PacketTraceback$Network" "addresses" "[I", Cond.static yX5_wordOf]
def wsX2_trueMarksOf_r2 : List Cond := [Cond.code yX5_wordOf cX5_wordOf 1 (some .int), Cond.methodLink RX5 82 yX5_digestOf, Cond.static yX5_digestOf, Cond.code yX5_digestOf cX5_digestOf 1 (some .int)]
def wsX2_trueMarksOf : List Cond := .code yX2_trueMarksOf cX2_trueMarksOf 3 (some .int) :: ((wsX2_trueMarksOf_r1 ++ wsX2_trueMarksOf_r2) ++ wsX20)
def wsX3_init : List Cond := .code yX3_init cX3_init 1 none :: ([.methodLink RX3 3 objectInit, .instanceMethod objectInit, .code objectInit ⟨#[0xb1]⟩ 1 none, .arrayClass .int, .fieldLink RX3 9 "PacketTraceback$NodeTable" "addresses" "[I", .fieldLink RX3 15 "PacketTraceback$NodeTable" "distances" "[I", .fieldLink RX3 18 "PacketTraceback$NodeTable" "parents" "[I", .fieldLink RX3 21 "PacketTraceback$NodeTable" "count" "I"] ++ wsX30)
def wsX3_clear : List Cond := .code yX3_clear cX3_clear 1 none :: ([.fieldLink RX3 21 "PacketTraceback$NodeTable" "count" "I"] ++ wsX30)
def wsX3_size : List Cond := .code yX3_size cX3_size 1 (some .int) :: ([.fieldLink RX3 21 "PacketTraceback$NodeTable" "count" "I"] ++ wsX30)
def wsX3_has : List Cond := .code yX3_has cX3_has 2 (some .boolean) :: ([.fieldLink RX3 21 "PacketTraceback$NodeTable" "count" "I", .static yX5_isBelow, .initialized RX5, .code yX5_isBelow cX5_isBelow 2 (some .boolean)] ++ wsX30)
def wsX3_append : List Cond := .code yX3_append cX3_append 4 (some .boolean) :: ([.fieldLink RX3 21 "PacketTraceback$NodeTable" "count" "I", .fieldLink RX3 9 "PacketTraceback$NodeTable" "addresses" "[I", .fieldLink RX3 15 "PacketTraceback$NodeTable" "distances" "[I", .fieldLink RX3 18 "PacketTraceback$NodeTable" "parents" "[I", .static yX5_isBelow, .initialized RX5, .code yX5_isBelow cX5_isBelow 2 (some .boolean)] ++ wsX30)
def wsX3_addressOf : List Cond := .code yX3_addressOf cX3_addressOf 2 (some .int) :: ([.fieldLink RX3 9 "PacketTraceback$NodeTable" "addresses" "[I", .methodLink RX3 29 yX3_has, .instanceMethod yX3_has, .selects RX3 yX3_has yX3_has, .initialized RX3, .code yX3_has cX3_has 2 (some .boolean), .fieldLink RX3 21 "PacketTraceback$NodeTable" "count" "I", .static yX5_isBelow, .initialized RX5, .code yX5_isBelow cX5_isBelow 2 (some .boolean)] ++ wsX30)
def wsX3_distanceOf : List Cond := .code yX3_distanceOf cX3_distanceOf 2 (some .int) :: ([.fieldLink RX3 15 "PacketTraceback$NodeTable" "distances" "[I", .methodLink RX3 29 yX3_has, .instanceMethod yX3_has, .selects RX3 yX3_has yX3_has, .initialized RX3, .code yX3_has cX3_has 2 (some .boolean), .fieldLink RX3 21 "PacketTraceback$NodeTable" "count" "I", .static yX5_isBelow, .initialized RX5, .code yX5_isBelow cX5_isBelow 2 (some .boolean)] ++ wsX30)
def wsX3_parentOf : List Cond := .code yX3_parentOf cX3_parentOf 2 (some .int) :: ([.fieldLink RX3 18 "PacketTraceback$NodeTable" "parents" "[I", .methodLink RX3 29 yX3_has, .instanceMethod yX3_has, .selects RX3 yX3_has yX3_has, .initialized RX3, .code yX3_has cX3_has 2 (some .boolean), .fieldLink RX3 21 "PacketTraceback$NodeTable" "count" "I", .static yX5_isBelow, .initialized RX5, .code yX5_isBelow cX5_isBelow 2 (some .boolean)] ++ wsX30)
def wsX4_init : List Cond := .code yX4_init cX4_init 1 none :: ([.methodLink RX4 3 objectInit, .instanceMethod objectInit, .code objectInit ⟨#[0xb1]⟩ 1 none, .fieldLink RX4 9 "PacketTraceback$Packet" "marked" "Z", .fieldLink RX4 15 "PacketTraceback$Packet" "markedByRouter" "Z", .fieldLink RX4 18 "PacketTraceback$Packet" "distance" "I", .fieldLink RX4 22 "PacketTraceback$Packet" "offset" "I", .fieldLink RX4 25 "PacketTraceback$Packet" "fragment" "I"] ++ wsX40)
def wsX4_putMark : List Cond := .code yX4_putMark cX4_putMark 4 none :: ([.fieldLink RX4 18 "PacketTraceback$Packet" "distance" "I", .fieldLink RX4 22 "PacketTraceback$Packet" "offset" "I", .fieldLink RX4 25 "PacketTraceback$Packet" "fragment" "I"] ++ wsX40)
def wsX4_startUnmarked : List Cond := .code yX4_startUnmarked cX4_startUnmarked 1 none :: ([.fieldLink RX4 9 "PacketTraceback$Packet" "marked" "Z", .fieldLink RX4 15 "PacketTraceback$Packet" "markedByRouter" "Z", .methodLink RX4 28 yX4_putMark, .instanceMethod yX4_putMark, .selects RX4 yX4_putMark yX4_putMark, .initialized RX4, .code yX4_putMark cX4_putMark 4 none, .fieldLink RX4 18 "PacketTraceback$Packet" "distance" "I", .fieldLink RX4 22 "PacketTraceback$Packet" "offset" "I", .fieldLink RX4 25 "PacketTraceback$Packet" "fragment" "I"] ++ wsX40)
def wsX4_startForged : List Cond := .code yX4_startForged cX4_startForged 4 none :: ([.fieldLink RX4 9 "PacketTraceback$Packet" "marked" "Z", .fieldLink RX4 15 "PacketTraceback$Packet" "markedByRouter" "Z", .methodLink RX4 28 yX4_putMark, .instanceMethod yX4_putMark, .selects RX4 yX4_putMark yX4_putMark, .initialized RX4, .code yX4_putMark cX4_putMark 4 none, .fieldLink RX4 18 "PacketTraceback$Packet" "distance" "I", .fieldLink RX4 22 "PacketTraceback$Packet" "offset" "I", .fieldLink RX4 25 "PacketTraceback$Packet" "fragment" "I"] ++ wsX40)
def wsX4_takeMark : List Cond := .code yX4_takeMark cX4_takeMark 3 none :: ([.fieldLink RX4 9 "PacketTraceback$Packet" "marked" "Z", .fieldLink RX4 15 "PacketTraceback$Packet" "markedByRouter" "Z", .methodLink RX4 28 yX4_putMark, .instanceMethod yX4_putMark, .selects RX4 yX4_putMark yX4_putMark, .initialized RX4, .code yX4_putMark cX4_putMark 4 none, .fieldLink RX4 18 "PacketTraceback$Packet" "distance" "I", .fieldLink RX4 22 "PacketTraceback$Packet" "offset" "I", .fieldLink RX4 25 "PacketTraceback$Packet" "fragment" "I"] ++ wsX40)
def wsX4_goOn : List Cond := .code yX4_goOn cX4_goOn 2 none :: ([.fieldLink RX4 9 "PacketTraceback$Packet" "marked" "Z", .fieldLink RX4 18 "PacketTraceback$Packet" "distance" "I", .fieldLink RX4 25 "PacketTraceback$Packet" "fragment" "I", .fieldLink RX4 22 "PacketTraceback$Packet" "offset" "I", .static yX5_fragmentOf, .initialized RX5, .code yX5_fragmentOf cX5_fragmentOf 2 (some .int)] ++ wsX40)
def wsX4_isMarkedByRouter : List Cond := .code yX4_isMarkedByRouter cX4_isMarkedByRouter 1 (some .boolean) :: ([.fieldLink RX4 15 "PacketTraceback$Packet" "markedByRouter" "Z"] ++ wsX40)
def wsX5_init_r1 : List Cond := [Cond.methodLink RX5 1 objectInit, Cond.instanceMethod objectInit, Cond.code objectInit ⟨#[0xb1]⟩ 1 none, Cond.classLink RX5 7 RX2, Cond.instantiable RX2 4, Cond.initialized RX2, Cond.fieldLink RX5 10 "PacketTraceback" "network" "LPacketTraceback$Network;", Cond.classLink RX5 16 RX0, Cond.instantiable RX0 1, Cond.initialized RX0, Cond.fieldLink RX5 19 "PacketTraceback" "generator" "LPacketTraceback$Generator;", Cond.classLink RX5 23 RX4, Cond.instantiable RX4 5, Cond.initialized RX4, Cond.fieldLink RX5 26 "PacketTraceback" "packet" "LPacketTraceback$Packet;", Cond.classLink RX5 30 RX1, Cond.instantiable RX1 4, Cond.initialized RX1, Cond.fieldLink RX5 33 "PacketTraceback" "marks" "LPacketTraceback$MarkRecord;", Cond.arrayClass .int, Cond.fieldLink RX5 37 "PacketTraceback" "offsetsSeen" "[I", Cond.fieldLink RX5 41 "PacketTraceback" "markingPercent" "I", Cond.classLink RX5 45 RX3, Cond.instantiable RX3 4]
def wsX5_init_r2 : List Cond := [Cond.initialized RX3, Cond.fieldLink RX5 48 "PacketTraceback" "nodes" "LPacketTraceback$NodeTable;", Cond.fieldLink RX5 52 "PacketTraceback" "spareNodes" "LPacketTraceback$NodeTable;", Cond.methodLink RX5 9 yX2_init, Cond.instanceMethod yX2_init, Cond.code yX2_init cX2_init 1 none, Cond.methodLink RX2 3 objectInit, Cond.fieldLink RX2 9 "PacketTraceback$Network" "parents" "[I", Cond.fieldLink RX2 15 "PacketTraceback$Network" "addresses" "[I", Cond.fieldLink RX2 18 "PacketTraceback$Network" "depths" "[I", Cond.fieldLink RX2 21 "PacketTraceback$Network" "count" "I", Cond.methodLink RX5 18 yX0_init, Cond.instanceMethod yX0_init, Cond.code yX0_init cX0_init 1 none, Cond.methodLink RX0 1 objectInit, Cond.fieldLink RX0 7 "PacketTraceback$Generator" "state" "I", Cond.methodLink RX5 25 yX4_init, Cond.instanceMethod yX4_init, Cond.code yX4_init cX4_init 1 none, Cond.methodLink RX4 3 objectInit, Cond.fieldLink RX4 9 "PacketTraceback$Packet" "marked" "Z", Cond.fieldLink RX4 15 "PacketTraceback$Packet" "markedByRouter" "Z", Cond.fieldLink RX4 18 "PacketTraceback$Packet" "distance" "I", Cond.fieldLink RX4 22 "PacketTraceback$Packet" "offset" "I"]
def wsX5_init_r3 : List Cond := [Cond.fieldLink RX4 25 "PacketTraceback$Packet" "fragment" "I", Cond.methodLink RX5 32 yX1_init, Cond.instanceMethod yX1_init, Cond.code yX1_init cX1_init 1 none, Cond.methodLink RX1 3 objectInit, Cond.fieldLink RX1 9 "PacketTraceback$MarkRecord" "counts" "[I", Cond.fieldLink RX1 15 "PacketTraceback$MarkRecord" "fragmentSets" "[I", Cond.fieldLink RX1 18 "PacketTraceback$MarkRecord" "unmarkedPackets" "I", Cond.fieldLink RX1 22 "PacketTraceback$MarkRecord" "markedPackets" "I", Cond.methodLink RX5 47 yX3_init, Cond.instanceMethod yX3_init, Cond.code yX3_init cX3_init 1 none, Cond.methodLink RX3 3 objectInit, Cond.fieldLink RX3 9 "PacketTraceback$NodeTable" "addresses" "[I", Cond.fieldLink RX3 15 "PacketTraceback$NodeTable" "distances" "[I", Cond.fieldLink RX3 18 "PacketTraceback$NodeTable" "parents" "[I", Cond.fieldLink RX3 21 "PacketTraceback$NodeTable" "count" "I"]
def wsX5_init : List Cond := .code yX5_init cX5_init 1 none :: ((wsX5_init_r1 ++ (wsX5_init_r2 ++ wsX5_init_r3)) ++ wsX20 ++ wsX50 ++ wsX00 ++ wsX40 ++ wsX10 ++ wsX30)
def wsX5_addRouter_r1 : List Cond := [Cond.fieldLink RX5 10 "PacketTraceback" "network" "LPacketTraceback$Network;", Cond.methodLink RX5 55 yX2_isEmpty, Cond.instanceMethod yX2_isEmpty, Cond.selects RX2 yX2_isEmpty yX2_isEmpty, Cond.initialized RX2, Cond.code yX2_isEmpty cX2_isEmpty 1 (some .boolean), Cond.fieldLink RX2 21 "PacketTraceback$Network" "count" "I", Cond.methodLink RX5 59 yX2_has, Cond.instanceMethod yX2_has, Cond.selects RX2 yX2_has yX2_has, Cond.code yX2_has cX2_has 2 (some .boolean), Cond.static yX5_isBelow, Cond.initialized RX5, Cond.code yX5_isBelow cX5_isBelow 2 (some .boolean), Cond.methodLink RX5 63 yX5_isBelow, Cond.methodLink RX5 67 yX2_find, Cond.instanceMethod yX2_find, Cond.selects RX2 yX2_find yX2_find, Cond.code yX2_find cX2_find 3 (some .int), Cond.fieldLink RX2 15 "PacketTraceback$Network" "addresses" "[I", Cond.methodLink RX5 71 yX2_append, Cond.instanceMethod yX2_append, Cond.selects RX2 yX2_append yX2_append, Cond.code yX2_append cX2_append 5 (some .int)]
def wsX5_addRouter_r2 : List Cond := [Cond.fieldLink RX2 9 "PacketTraceback$Network" "parents" "[I", Cond.fieldLink RX2 18 "PacketTraceback$Network" "depths" "[I", Cond.methodLink RX2 29 yX2_depthOf, Cond.instanceMethod yX2_depthOf, Cond.selects RX2 yX2_depthOf yX2_depthOf, Cond.code yX2_depthOf cX2_depthOf 2 (some .int), Cond.methodLink RX2 33 yX2_has]
def wsX5_addRouter : List Cond := .code yX5_addRouter cX5_addRouter 3 (some .int) :: ((wsX5_addRouter_r1 ++ wsX5_addRouter_r2) ++ wsX50 ++ wsX20)
def wsX5_routerCount : List Cond := .code yX5_routerCount cX5_routerCount 1 (some .int) :: ([.fieldLink RX5 10 "PacketTraceback" "network" "LPacketTraceback$Network;", .methodLink RX5 75 yX2_size, .instanceMethod yX2_size, .selects RX2 yX2_size yX2_size, .initialized RX2, .code yX2_size cX2_size 1 (some .int), .fieldLink RX2 21 "PacketTraceback$Network" "count" "I"] ++ wsX50 ++ wsX20)
def wsX5_depth : List Cond := .code yX5_depth cX5_depth 2 (some .int) :: ([.fieldLink RX5 10 "PacketTraceback" "network" "LPacketTraceback$Network;", .methodLink RX5 59 yX2_has, .instanceMethod yX2_has, .selects RX2 yX2_has yX2_has, .initialized RX2, .code yX2_has cX2_has 2 (some .boolean), .fieldLink RX2 21 "PacketTraceback$Network" "count" "I", .static yX5_isBelow, .initialized RX5, .code yX5_isBelow cX5_isBelow 2 (some .boolean), .methodLink RX5 79 yX2_depthOf, .instanceMethod yX2_depthOf, .selects RX2 yX2_depthOf yX2_depthOf, .code yX2_depthOf cX2_depthOf 2 (some .int), .fieldLink RX2 18 "PacketTraceback$Network" "depths" "[I", .methodLink RX2 33 yX2_has] ++ wsX50 ++ wsX20)
def wsX5_digest : List Cond := .code yX5_digest cX5_digest 2 (some .int) :: ([.methodLink RX5 63 yX5_isBelow, .static yX5_isBelow, .initialized RX5, .code yX5_isBelow cX5_isBelow 2 (some .boolean), .methodLink RX5 82 yX5_digestOf, .static yX5_digestOf, .code yX5_digestOf cX5_digestOf 1 (some .int)])
def wsX5_fragment : List Cond := .code yX5_fragment cX5_fragment 3 (some .int) :: ([.methodLink RX5 63 yX5_isBelow, .static yX5_isBelow, .initialized RX5, .code yX5_isBelow cX5_isBelow 2 (some .boolean), .methodLink RX5 85 yX5_wordOf, .static yX5_wordOf, .code yX5_wordOf cX5_wordOf 1 (some .int), .methodLink RX5 82 yX5_digestOf, .static yX5_digestOf, .code yX5_digestOf cX5_digestOf 1 (some .int), .methodLink RX5 88 yX5_fragmentOf, .static yX5_fragmentOf, .code yX5_fragmentOf cX5_fragmentOf 2 (some .int)])
def wsX5_isFromOneTo : List Cond := .code yX5_isFromOneTo cX5_isFromOneTo 2 (some .boolean) :: ([])
def wsX5_setMarkingPercent : List Cond := .code yX5_setMarkingPercent cX5_setMarkingPercent 3 (some .int) :: ([.fieldLink RX5 41 "PacketTraceback" "markingPercent" "I", .methodLink RX5 91 yX5_isFromOneTo, .static yX5_isFromOneTo, .initialized RX5, .code yX5_isFromOneTo cX5_isFromOneTo 2 (some .boolean)] ++ wsX50)
def wsX5_setSeed : List Cond := .code yX5_setSeed cX5_setSeed 2 (some .int) :: ([.fieldLink RX5 19 "PacketTraceback" "generator" "LPacketTraceback$Generator;", .methodLink RX5 94 yX0_restart, .instanceMethod yX0_restart, .selects RX0 yX0_restart yX0_restart, .initialized RX0, .code yX0_restart cX0_restart 3 (some .int), .fieldLink RX0 7 "PacketTraceback$Generator" "state" "I"] ++ wsX50 ++ wsX00)
def wsX5_clearMarks : List Cond := .code yX5_clearMarks cX5_clearMarks 2 (some .int) :: ([.fieldLink RX5 33 "PacketTraceback" "marks" "LPacketTraceback$MarkRecord;", .methodLink RX5 97 yX1_received, .instanceMethod yX1_received, .selects RX1 yX1_received yX1_received, .initialized RX1, .code yX1_received cX1_received 1 (some .int), .fieldLink RX1 18 "PacketTraceback$MarkRecord" "unmarkedPackets" "I", .fieldLink RX1 22 "PacketTraceback$MarkRecord" "markedPackets" "I", .methodLink RX5 100 yX1_clear, .instanceMethod yX1_clear, .selects RX1 yX1_clear yX1_clear, .code yX1_clear cX1_clear 1 none, .fieldLink RX1 9 "PacketTraceback$MarkRecord" "counts" "[I", .fieldLink RX1 15 "PacketTraceback$MarkRecord" "fragmentSets" "[I", .methodLink RX1 29 yJ7_fill_53178, .static yJ7_fill_53178, .initialized RJ7, .code yJ7_fill_53178 cJ7_fill_53178 4 none] ++ wsX50 ++ wsX10)
def wsX5_passRouter_r1 : List Cond := [Cond.fieldLink RX5 19 "PacketTraceback" "generator" "LPacketTraceback$Generator;", Cond.fieldLink RX5 41 "PacketTraceback" "markingPercent" "I", Cond.fieldLink RX5 26 "PacketTraceback" "packet" "LPacketTraceback$Packet;", Cond.methodLink RX5 181 yX0_draw, Cond.instanceMethod yX0_draw, Cond.selects RX0 yX0_draw yX0_draw, Cond.initialized RX0, Cond.code yX0_draw cX0_draw 1 (some .int), Cond.fieldLink RX0 7 "PacketTraceback$Generator" "state" "I", Cond.constant RX0 13 (1103515245), Cond.methodLink RX5 88 yX5_fragmentOf, Cond.static yX5_fragmentOf, Cond.initialized RX5, Cond.code yX5_fragmentOf cX5_fragmentOf 2 (some .int), Cond.methodLink RX5 184 yX4_takeMark, Cond.instanceMethod yX4_takeMark, Cond.selects RX4 yX4_takeMark yX4_takeMark, Cond.initialized RX4, Cond.code yX4_takeMark cX4_takeMark 3 none, Cond.fieldLink RX4 9 "PacketTraceback$Packet" "marked" "Z", Cond.fieldLink RX4 15 "PacketTraceback$Packet" "markedByRouter" "Z", Cond.methodLink RX4 28 yX4_putMark, Cond.instanceMethod yX4_putMark, Cond.selects RX4 yX4_putMark yX4_putMark]
def wsX5_passRouter_r2 : List Cond := [Cond.code yX4_putMark cX4_putMark 4 none, Cond.fieldLink RX4 18 "PacketTraceback$Packet" "distance" "I", Cond.fieldLink RX4 22 "PacketTraceback$Packet" "offset" "I", Cond.fieldLink RX4 25 "PacketTraceback$Packet" "fragment" "I", Cond.methodLink RX5 188 yX4_goOn, Cond.instanceMethod yX4_goOn, Cond.selects RX4 yX4_goOn yX4_goOn, Cond.code yX4_goOn cX4_goOn 2 none]
def wsX5_passRouter : List Cond := .code yX5_passRouter cX5_passRouter 3 none :: ((wsX5_passRouter_r1 ++ wsX5_passRouter_r2) ++ wsX50 ++ wsX00 ++ wsX40)
def wsX5_carryToVictim_r1 : List Cond := [Cond.fieldLink RX5 10 "PacketTraceback" "network" "LPacketTraceback$Network;", Cond.methodLink RX5 59 yX2_has, Cond.instanceMethod yX2_has, Cond.selects RX2 yX2_has yX2_has, Cond.initialized RX2, Cond.code yX2_has cX2_has 2 (some .boolean), Cond.fieldLink RX2 21 "PacketTraceback$Network" "count" "I", Cond.static yX5_isBelow, Cond.initialized RX5, Cond.code yX5_isBelow cX5_isBelow 2 (some .boolean), Cond.methodLink RX5 175 yX2_wordAt, Cond.instanceMethod yX2_wordAt, Cond.selects RX2 yX2_wordAt yX2_wordAt, Cond.code yX2_wordAt cX2_wordAt 2 (some .int), Cond.methodLink RX2 37 yX2_addressOf, Cond.instanceMethod yX2_addressOf, Cond.selects RX2 yX2_addressOf yX2_addressOf, Cond.code yX2_addressOf cX2_addressOf 2 (some .int), Cond.fieldLink RX2 15 "PacketTraceback$Network" "addresses" "[I", Cond.methodLink RX2 33 yX2_has, Cond.static yX5_wordOf, Cond.code yX5_wordOf cX5_wordOf 1 (some .int), Cond.methodLink RX5 82 yX5_digestOf, Cond.static yX5_digestOf]
def wsX5_carryToVictim_r2 : List Cond := [Cond.code yX5_digestOf cX5_digestOf 1 (some .int), Cond.methodLink RX5 178 yX5_passRouter, Cond.instanceMethod yX5_passRouter, Cond.selects RX5 yX5_passRouter yX5_passRouter, Cond.code yX5_passRouter cX5_passRouter 3 none, Cond.fieldLink RX5 19 "PacketTraceback" "generator" "LPacketTraceback$Generator;", Cond.fieldLink RX5 41 "PacketTraceback" "markingPercent" "I", Cond.fieldLink RX5 26 "PacketTraceback" "packet" "LPacketTraceback$Packet;", Cond.methodLink RX5 181 yX0_draw, Cond.instanceMethod yX0_draw, Cond.selects RX0 yX0_draw yX0_draw, Cond.initialized RX0, Cond.code yX0_draw cX0_draw 1 (some .int), Cond.fieldLink RX0 7 "PacketTraceback$Generator" "state" "I", Cond.constant RX0 13 (1103515245), Cond.methodLink RX5 88 yX5_fragmentOf, Cond.static yX5_fragmentOf, Cond.code yX5_fragmentOf cX5_fragmentOf 2 (some .int), Cond.methodLink RX5 184 yX4_takeMark, Cond.instanceMethod yX4_takeMark, Cond.selects RX4 yX4_takeMark yX4_takeMark, Cond.initialized RX4, Cond.code yX4_takeMark cX4_takeMark 3 none, Cond.fieldLink RX4 9 "PacketTraceback$Packet" "marked" "Z"]
def wsX5_carryToVictim_r3 : List Cond := [Cond.fieldLink RX4 15 "PacketTraceback$Packet" "markedByRouter" "Z", Cond.methodLink RX4 28 yX4_putMark, Cond.instanceMethod yX4_putMark, Cond.selects RX4 yX4_putMark yX4_putMark, Cond.code yX4_putMark cX4_putMark 4 none, Cond.fieldLink RX4 18 "PacketTraceback$Packet" "distance" "I", Cond.fieldLink RX4 22 "PacketTraceback$Packet" "offset" "I", Cond.fieldLink RX4 25 "PacketTraceback$Packet" "fragment" "I", Cond.methodLink RX5 188 yX4_goOn, Cond.instanceMethod yX4_goOn, Cond.selects RX4 yX4_goOn yX4_goOn, Cond.code yX4_goOn cX4_goOn 2 none, Cond.methodLink RX5 139 yX2_parentOf, Cond.instanceMethod yX2_parentOf, Cond.selects RX2 yX2_parentOf yX2_parentOf, Cond.code yX2_parentOf cX2_parentOf 2 (some .int), Cond.fieldLink RX2 9 "PacketTraceback$Network" "parents" "[I"]
def wsX5_carryToVictim : List Cond := .code yX5_carryToVictim cX5_carryToVictim 4 none :: ((wsX5_carryToVictim_r1 ++ (wsX5_carryToVictim_r2 ++ wsX5_carryToVictim_r3)) ++ wsX50 ++ wsX20 ++ wsX00 ++ wsX40)
def wsX5_deliver_r1 : List Cond := [Cond.fieldLink RX5 33 "PacketTraceback" "marks" "LPacketTraceback$MarkRecord;", Cond.fieldLink RX5 26 "PacketTraceback" "packet" "LPacketTraceback$Packet;", Cond.methodLink RX5 164 yX5_carryToVictim, Cond.instanceMethod yX5_carryToVictim, Cond.selects RX5 yX5_carryToVictim yX5_carryToVictim, Cond.initialized RX5, Cond.code yX5_carryToVictim cX5_carryToVictim 4 none, Cond.fieldLink RX5 10 "PacketTraceback" "network" "LPacketTraceback$Network;", Cond.methodLink RX5 59 yX2_has, Cond.instanceMethod yX2_has, Cond.selects RX2 yX2_has yX2_has, Cond.initialized RX2, Cond.code yX2_has cX2_has 2 (some .boolean), Cond.fieldLink RX2 21 "PacketTraceback$Network" "count" "I", Cond.static yX5_isBelow, Cond.code yX5_isBelow cX5_isBelow 2 (some .boolean), Cond.methodLink RX5 175 yX2_wordAt, Cond.instanceMethod yX2_wordAt, Cond.selects RX2 yX2_wordAt yX2_wordAt, Cond.code yX2_wordAt cX2_wordAt 2 (some .int), Cond.methodLink RX2 37 yX2_addressOf, Cond.instanceMethod yX2_addressOf, Cond.selects RX2 yX2_addressOf yX2_addressOf, Cond.code yX2_addressOf cX2_addressOf 2 (some .int)]
def wsX5_deliver_r2 : List Cond := [Cond.fieldLink RX2 15 "PacketTraceback$Network" "addresses" "[I", Cond.methodLink RX2 33 yX2_has, Cond.static yX5_wordOf, Cond.code yX5_wordOf cX5_wordOf 1 (some .int), Cond.methodLink RX5 82 yX5_digestOf, Cond.static yX5_digestOf, Cond.code yX5_digestOf cX5_digestOf 1 (some .int), Cond.methodLink RX5 178 yX5_passRouter, Cond.instanceMethod yX5_passRouter, Cond.selects RX5 yX5_passRouter yX5_passRouter, Cond.code yX5_passRouter cX5_passRouter 3 none, Cond.fieldLink RX5 19 "PacketTraceback" "generator" "LPacketTraceback$Generator;", Cond.fieldLink RX5 41 "PacketTraceback" "markingPercent" "I", Cond.methodLink RX5 181 yX0_draw, Cond.instanceMethod yX0_draw, Cond.selects RX0 yX0_draw yX0_draw, Cond.initialized RX0, Cond.code yX0_draw cX0_draw 1 (some .int), Cond.fieldLink RX0 7 "PacketTraceback$Generator" "state" "I", Cond.constant RX0 13 (1103515245), Cond.methodLink RX5 88 yX5_fragmentOf, Cond.static yX5_fragmentOf, Cond.code yX5_fragmentOf cX5_fragmentOf 2 (some .int), Cond.methodLink RX5 184 yX4_takeMark]
def wsX5_deliver_r3 : List Cond := [Cond.instanceMethod yX4_takeMark, Cond.selects RX4 yX4_takeMark yX4_takeMark, Cond.initialized RX4, Cond.code yX4_takeMark cX4_takeMark 3 none, Cond.fieldLink RX4 9 "PacketTraceback$Packet" "marked" "Z", Cond.fieldLink RX4 15 "PacketTraceback$Packet" "markedByRouter" "Z", Cond.methodLink RX4 28 yX4_putMark, Cond.instanceMethod yX4_putMark, Cond.selects RX4 yX4_putMark yX4_putMark, Cond.code yX4_putMark cX4_putMark 4 none, Cond.fieldLink RX4 18 "PacketTraceback$Packet" "distance" "I", Cond.fieldLink RX4 22 "PacketTraceback$Packet" "offset" "I", Cond.fieldLink RX4 25 "PacketTraceback$Packet" "fragment" "I", Cond.methodLink RX5 188 yX4_goOn, Cond.instanceMethod yX4_goOn, Cond.selects RX4 yX4_goOn yX4_goOn, Cond.code yX4_goOn cX4_goOn 2 none, Cond.methodLink RX5 139 yX2_parentOf, Cond.instanceMethod yX2_parentOf, Cond.selects RX2 yX2_parentOf yX2_parentOf, Cond.code yX2_parentOf cX2_parentOf 2 (some .int), Cond.fieldLink RX2 9 "PacketTraceback$Network" "parents" "[I", Cond.methodLink RX5 168 yX1_note, Cond.instanceMethod yX1_note]
def wsX5_deliver_r4 : List Cond := [Cond.selects RX1 yX1_note yX1_note, Cond.initialized RX1, Cond.code yX1_note cX1_note 3 none, Cond.fieldLink RX1 18 "PacketTraceback$MarkRecord" "unmarkedPackets" "I", Cond.fieldLink RX1 22 "PacketTraceback$MarkRecord" "markedPackets" "I", Cond.fieldLink RX1 9 "PacketTraceback$MarkRecord" "counts" "[I", Cond.fieldLink RX1 15 "PacketTraceback$MarkRecord" "fragmentSets" "[I", Cond.methodLink RX1 35 yX4_isMarked, Cond.instanceMethod yX4_isMarked, Cond.selects RX4 yX4_isMarked yX4_isMarked, Cond.code yX4_isMarked cX4_isMarked 1 (some .boolean), Cond.methodLink RX1 41 yX4_fragmentValue, Cond.instanceMethod yX4_fragmentValue, Cond.selects RX4 yX4_fragmentValue yX4_fragmentValue, Cond.code yX4_fragmentValue cX4_fragmentValue 1 (some .int), Cond.methodLink RX1 45 yX4_distance, Cond.instanceMethod yX4_distance, Cond.selects RX4 yX4_distance yX4_distance, Cond.code yX4_distance cX4_distance 1 (some .int), Cond.methodLink RX1 48 yX4_offset, Cond.instanceMethod yX4_offset, Cond.selects RX4 yX4_offset yX4_offset, Cond.code yX4_offset cX4_offset 1 (some .int), Cond.methodLink RX1 51 yX1_countPlace]
def wsX5_deliver_r5 : List Cond := [Cond.static yX1_countPlace, Cond.code yX1_countPlace cX1_countPlace 3 (some .int), Cond.methodLink RX1 25 yX1_setPlace, Cond.static yX1_setPlace, Cond.code yX1_setPlace cX1_setPlace 2 (some .int), Cond.methodLink RX5 172 yX4_isMarkedByRouter, Cond.instanceMethod yX4_isMarkedByRouter, Cond.selects RX4 yX4_isMarkedByRouter yX4_isMarkedByRouter, Cond.code yX4_isMarkedByRouter cX4_isMarkedByRouter 1 (some .boolean)]
def wsX5_deliver : List Cond := .code yX5_deliver cX5_deliver 2 (some .int) :: ((wsX5_deliver_r1 ++ (wsX5_deliver_r2 ++ (wsX5_deliver_r3 ++ (wsX5_deliver_r4 ++ wsX5_deliver_r5)))) ++ wsX50 ++ wsX20 ++ wsX00 ++ wsX40 ++ wsX10)
def wsX5_sendPackets_r1 : List Cond := [Cond.fieldLink RX5 10 "PacketTraceback" "network" "LPacketTraceback$Network;", Cond.fieldLink RX5 26 "PacketTraceback" "packet" "LPacketTraceback$Packet;", Cond.methodLink RX5 59 yX2_has, Cond.instanceMethod yX2_has, Cond.selects RX2 yX2_has yX2_has, Cond.initialized RX2, Cond.code yX2_has cX2_has 2 (some .boolean), Cond.fieldLink RX2 21 "PacketTraceback$Network" "count" "I", Cond.static yX5_isBelow, Cond.initialized RX5, Cond.code yX5_isBelow cX5_isBelow 2 (some .boolean), Cond.methodLink RX5 91 yX5_isFromOneTo, Cond.static yX5_isFromOneTo, Cond.code yX5_isFromOneTo cX5_isFromOneTo 2 (some .boolean), Cond.methodLink RX5 103 yX4_startUnmarked, Cond.instanceMethod yX4_startUnmarked, Cond.selects RX4 yX4_startUnmarked yX4_startUnmarked, Cond.initialized RX4, Cond.code yX4_startUnmarked cX4_startUnmarked 1 none, Cond.fieldLink RX4 9 "PacketTraceback$Packet" "marked" "Z", Cond.fieldLink RX4 15 "PacketTraceback$Packet" "markedByRouter" "Z", Cond.methodLink RX4 28 yX4_putMark, Cond.instanceMethod yX4_putMark, Cond.selects RX4 yX4_putMark yX4_putMark]
def wsX5_sendPackets_r2 : List Cond := [Cond.code yX4_putMark cX4_putMark 4 none, Cond.fieldLink RX4 18 "PacketTraceback$Packet" "distance" "I", Cond.fieldLink RX4 22 "PacketTraceback$Packet" "offset" "I", Cond.fieldLink RX4 25 "PacketTraceback$Packet" "fragment" "I", Cond.methodLink RX5 106 yX5_deliver, Cond.instanceMethod yX5_deliver, Cond.selects RX5 yX5_deliver yX5_deliver, Cond.code yX5_deliver cX5_deliver 2 (some .int), Cond.fieldLink RX5 33 "PacketTraceback" "marks" "LPacketTraceback$MarkRecord;", Cond.methodLink RX5 164 yX5_carryToVictim, Cond.instanceMethod yX5_carryToVictim, Cond.selects RX5 yX5_carryToVictim yX5_carryToVictim, Cond.code yX5_carryToVictim cX5_carryToVictim 4 none, Cond.methodLink RX5 175 yX2_wordAt, Cond.instanceMethod yX2_wordAt, Cond.selects RX2 yX2_wordAt yX2_wordAt, Cond.code yX2_wordAt cX2_wordAt 2 (some .int), Cond.methodLink RX2 37 yX2_addressOf, Cond.instanceMethod yX2_addressOf, Cond.selects RX2 yX2_addressOf yX2_addressOf, Cond.code yX2_addressOf cX2_addressOf 2 (some .int), Cond.fieldLink RX2 15 "PacketTraceback$Network" "addresses" "[I", Cond.methodLink RX2 33 yX2_has, Cond.static yX5_wordOf]
def wsX5_sendPackets_r3 : List Cond := [Cond.code yX5_wordOf cX5_wordOf 1 (some .int), Cond.methodLink RX5 82 yX5_digestOf, Cond.static yX5_digestOf, Cond.code yX5_digestOf cX5_digestOf 1 (some .int), Cond.methodLink RX5 178 yX5_passRouter, Cond.instanceMethod yX5_passRouter, Cond.selects RX5 yX5_passRouter yX5_passRouter, Cond.code yX5_passRouter cX5_passRouter 3 none, Cond.fieldLink RX5 19 "PacketTraceback" "generator" "LPacketTraceback$Generator;", Cond.fieldLink RX5 41 "PacketTraceback" "markingPercent" "I", Cond.methodLink RX5 181 yX0_draw, Cond.instanceMethod yX0_draw, Cond.selects RX0 yX0_draw yX0_draw, Cond.initialized RX0, Cond.code yX0_draw cX0_draw 1 (some .int), Cond.fieldLink RX0 7 "PacketTraceback$Generator" "state" "I", Cond.constant RX0 13 (1103515245), Cond.methodLink RX5 88 yX5_fragmentOf, Cond.static yX5_fragmentOf, Cond.code yX5_fragmentOf cX5_fragmentOf 2 (some .int), Cond.methodLink RX5 184 yX4_takeMark, Cond.instanceMethod yX4_takeMark, Cond.selects RX4 yX4_takeMark yX4_takeMark, Cond.code yX4_takeMark cX4_takeMark 3 none]
def wsX5_sendPackets_r4 : List Cond := [Cond.methodLink RX5 188 yX4_goOn, Cond.instanceMethod yX4_goOn, Cond.selects RX4 yX4_goOn yX4_goOn, Cond.code yX4_goOn cX4_goOn 2 none, Cond.methodLink RX5 139 yX2_parentOf, Cond.instanceMethod yX2_parentOf, Cond.selects RX2 yX2_parentOf yX2_parentOf, Cond.code yX2_parentOf cX2_parentOf 2 (some .int), Cond.fieldLink RX2 9 "PacketTraceback$Network" "parents" "[I", Cond.methodLink RX5 168 yX1_note, Cond.instanceMethod yX1_note, Cond.selects RX1 yX1_note yX1_note, Cond.initialized RX1, Cond.code yX1_note cX1_note 3 none, Cond.fieldLink RX1 18 "PacketTraceback$MarkRecord" "unmarkedPackets" "I", Cond.fieldLink RX1 22 "PacketTraceback$MarkRecord" "markedPackets" "I", Cond.fieldLink RX1 9 "PacketTraceback$MarkRecord" "counts" "[I", Cond.fieldLink RX1 15 "PacketTraceback$MarkRecord" "fragmentSets" "[I", Cond.methodLink RX1 35 yX4_isMarked, Cond.instanceMethod yX4_isMarked, Cond.selects RX4 yX4_isMarked yX4_isMarked, Cond.code yX4_isMarked cX4_isMarked 1 (some .boolean), Cond.methodLink RX1 41 yX4_fragmentValue, Cond.instanceMethod yX4_fragmentValue]
def wsX5_sendPackets_r5 : List Cond := [Cond.selects RX4 yX4_fragmentValue yX4_fragmentValue, Cond.code yX4_fragmentValue cX4_fragmentValue 1 (some .int), Cond.methodLink RX1 45 yX4_distance, Cond.instanceMethod yX4_distance, Cond.selects RX4 yX4_distance yX4_distance, Cond.code yX4_distance cX4_distance 1 (some .int), Cond.methodLink RX1 48 yX4_offset, Cond.instanceMethod yX4_offset, Cond.selects RX4 yX4_offset yX4_offset, Cond.code yX4_offset cX4_offset 1 (some .int), Cond.methodLink RX1 51 yX1_countPlace, Cond.static yX1_countPlace, Cond.code yX1_countPlace cX1_countPlace 3 (some .int), Cond.methodLink RX1 25 yX1_setPlace, Cond.static yX1_setPlace, Cond.code yX1_setPlace cX1_setPlace 2 (some .int), Cond.methodLink RX5 172 yX4_isMarkedByRouter, Cond.instanceMethod yX4_isMarkedByRouter, Cond.selects RX4 yX4_isMarkedByRouter yX4_isMarkedByRouter, Cond.code yX4_isMarkedByRouter cX4_isMarkedByRouter 1 (some .boolean)]
def wsX5_sendPackets : List Cond := .code yX5_sendPackets cX5_sendPackets 5 (some .int) :: ((wsX5_sendPackets_r1 ++ (wsX5_sendPackets_r2 ++ (wsX5_sendPackets_r3 ++ (wsX5_sendPackets_r4 ++ wsX5_sendPackets_r5)))) ++ wsX50 ++ wsX20 ++ wsX40 ++ wsX00 ++ wsX10)
def wsX5_isMark : List Cond := .code yX5_isMark cX5_isMark 3 (some .boolean) :: ([.methodLink RX5 63 yX5_isBelow, .static yX5_isBelow, .initialized RX5, .code yX5_isBelow cX5_isBelow 2 (some .boolean)])
def wsX5_sendForged_r1 : List Cond := [Cond.fieldLink RX5 10 "PacketTraceback" "network" "LPacketTraceback$Network;", Cond.fieldLink RX5 26 "PacketTraceback" "packet" "LPacketTraceback$Packet;", Cond.methodLink RX5 59 yX2_has, Cond.instanceMethod yX2_has, Cond.selects RX2 yX2_has yX2_has, Cond.initialized RX2, Cond.code yX2_has cX2_has 2 (some .boolean), Cond.fieldLink RX2 21 "PacketTraceback$Network" "count" "I", Cond.static yX5_isBelow, Cond.initialized RX5, Cond.code yX5_isBelow cX5_isBelow 2 (some .boolean), Cond.methodLink RX5 91 yX5_isFromOneTo, Cond.static yX5_isFromOneTo, Cond.code yX5_isFromOneTo cX5_isFromOneTo 2 (some .boolean), Cond.methodLink RX5 109 yX5_isMark, Cond.static yX5_isMark, Cond.code yX5_isMark cX5_isMark 3 (some .boolean), Cond.methodLink RX5 63 yX5_isBelow, Cond.methodLink RX5 113 yX4_startForged, Cond.instanceMethod yX4_startForged, Cond.selects RX4 yX4_startForged yX4_startForged, Cond.initialized RX4, Cond.code yX4_startForged cX4_startForged 4 none, Cond.fieldLink RX4 9 "PacketTraceback$Packet" "marked" "Z"]
def wsX5_sendForged_r2 : List Cond := [Cond.fieldLink RX4 15 "PacketTraceback$Packet" "markedByRouter" "Z", Cond.methodLink RX4 28 yX4_putMark, Cond.instanceMethod yX4_putMark, Cond.selects RX4 yX4_putMark yX4_putMark, Cond.code yX4_putMark cX4_putMark 4 none, Cond.fieldLink RX4 18 "PacketTraceback$Packet" "distance" "I", Cond.fieldLink RX4 22 "PacketTraceback$Packet" "offset" "I", Cond.fieldLink RX4 25 "PacketTraceback$Packet" "fragment" "I", Cond.methodLink RX5 106 yX5_deliver, Cond.instanceMethod yX5_deliver, Cond.selects RX5 yX5_deliver yX5_deliver, Cond.code yX5_deliver cX5_deliver 2 (some .int), Cond.fieldLink RX5 33 "PacketTraceback" "marks" "LPacketTraceback$MarkRecord;", Cond.methodLink RX5 164 yX5_carryToVictim, Cond.instanceMethod yX5_carryToVictim, Cond.selects RX5 yX5_carryToVictim yX5_carryToVictim, Cond.code yX5_carryToVictim cX5_carryToVictim 4 none, Cond.methodLink RX5 175 yX2_wordAt, Cond.instanceMethod yX2_wordAt, Cond.selects RX2 yX2_wordAt yX2_wordAt, Cond.code yX2_wordAt cX2_wordAt 2 (some .int), Cond.methodLink RX2 37 yX2_addressOf, Cond.instanceMethod yX2_addressOf, Cond.selects RX2 yX2_addressOf yX2_addressOf]
def wsX5_sendForged_r3 : List Cond := [Cond.code yX2_addressOf cX2_addressOf 2 (some .int), Cond.fieldLink RX2 15 "PacketTraceback$Network" "addresses" "[I", Cond.methodLink RX2 33 yX2_has, Cond.static yX5_wordOf, Cond.code yX5_wordOf cX5_wordOf 1 (some .int), Cond.methodLink RX5 82 yX5_digestOf, Cond.static yX5_digestOf, Cond.code yX5_digestOf cX5_digestOf 1 (some .int), Cond.methodLink RX5 178 yX5_passRouter, Cond.instanceMethod yX5_passRouter, Cond.selects RX5 yX5_passRouter yX5_passRouter, Cond.code yX5_passRouter cX5_passRouter 3 none, Cond.fieldLink RX5 19 "PacketTraceback" "generator" "LPacketTraceback$Generator;", Cond.fieldLink RX5 41 "PacketTraceback" "markingPercent" "I", Cond.methodLink RX5 181 yX0_draw, Cond.instanceMethod yX0_draw, Cond.selects RX0 yX0_draw yX0_draw, Cond.initialized RX0, Cond.code yX0_draw cX0_draw 1 (some .int), Cond.fieldLink RX0 7 "PacketTraceback$Generator" "state" "I", Cond.constant RX0 13 (1103515245), Cond.methodLink RX5 88 yX5_fragmentOf, Cond.static yX5_fragmentOf, Cond.code yX5_fragmentOf cX5_fragmentOf 2 (some .int)]
def wsX5_sendForged_r4 : List Cond := [Cond.methodLink RX5 184 yX4_takeMark, Cond.instanceMethod yX4_takeMark, Cond.selects RX4 yX4_takeMark yX4_takeMark, Cond.code yX4_takeMark cX4_takeMark 3 none, Cond.methodLink RX5 188 yX4_goOn, Cond.instanceMethod yX4_goOn, Cond.selects RX4 yX4_goOn yX4_goOn, Cond.code yX4_goOn cX4_goOn 2 none, Cond.methodLink RX5 139 yX2_parentOf, Cond.instanceMethod yX2_parentOf, Cond.selects RX2 yX2_parentOf yX2_parentOf, Cond.code yX2_parentOf cX2_parentOf 2 (some .int), Cond.fieldLink RX2 9 "PacketTraceback$Network" "parents" "[I", Cond.methodLink RX5 168 yX1_note, Cond.instanceMethod yX1_note, Cond.selects RX1 yX1_note yX1_note, Cond.initialized RX1, Cond.code yX1_note cX1_note 3 none, Cond.fieldLink RX1 18 "PacketTraceback$MarkRecord" "unmarkedPackets" "I", Cond.fieldLink RX1 22 "PacketTraceback$MarkRecord" "markedPackets" "I", Cond.fieldLink RX1 9 "PacketTraceback$MarkRecord" "counts" "[I", Cond.fieldLink RX1 15 "PacketTraceback$MarkRecord" "fragmentSets" "[I", Cond.methodLink RX1 35 yX4_isMarked, Cond.instanceMethod yX4_isMarked]
def wsX5_sendForged_r5 : List Cond := [Cond.selects RX4 yX4_isMarked yX4_isMarked, Cond.code yX4_isMarked cX4_isMarked 1 (some .boolean), Cond.methodLink RX1 41 yX4_fragmentValue, Cond.instanceMethod yX4_fragmentValue, Cond.selects RX4 yX4_fragmentValue yX4_fragmentValue, Cond.code yX4_fragmentValue cX4_fragmentValue 1 (some .int), Cond.methodLink RX1 45 yX4_distance, Cond.instanceMethod yX4_distance, Cond.selects RX4 yX4_distance yX4_distance, Cond.code yX4_distance cX4_distance 1 (some .int), Cond.methodLink RX1 48 yX4_offset, Cond.instanceMethod yX4_offset, Cond.selects RX4 yX4_offset yX4_offset, Cond.code yX4_offset cX4_offset 1 (some .int), Cond.methodLink RX1 51 yX1_countPlace, Cond.static yX1_countPlace, Cond.code yX1_countPlace cX1_countPlace 3 (some .int), Cond.methodLink RX1 25 yX1_setPlace, Cond.static yX1_setPlace, Cond.code yX1_setPlace cX1_setPlace 2 (some .int), Cond.methodLink RX5 172 yX4_isMarkedByRouter, Cond.instanceMethod yX4_isMarkedByRouter, Cond.selects RX4 yX4_isMarkedByRouter yX4_isMarkedByRouter, Cond.code yX4_isMarkedByRouter cX4_isMarkedByRouter 1 (some .boolean)]
def wsX5_sendForged : List Cond := .code yX5_sendForged cX5_sendForged 8 (some .int) :: ((wsX5_sendForged_r1 ++ (wsX5_sendForged_r2 ++ (wsX5_sendForged_r3 ++ (wsX5_sendForged_r4 ++ wsX5_sendForged_r5)))) ++ wsX50 ++ wsX20 ++ wsX40 ++ wsX00 ++ wsX10)
def wsX5_packetsAtDistance : List Cond := .code yX5_packetsAtDistance cX5_packetsAtDistance 2 (some .int) :: ([.fieldLink RX5 33 "PacketTraceback" "marks" "LPacketTraceback$MarkRecord;", .methodLink RX5 63 yX5_isBelow, .static yX5_isBelow, .initialized RX5, .code yX5_isBelow cX5_isBelow 2 (some .boolean), .methodLink RX5 117 yX1_countAt, .instanceMethod yX1_countAt, .selects RX1 yX1_countAt yX1_countAt, .initialized RX1, .code yX1_countAt cX1_countAt 5 (some .int), .methodLink RX1 55 yX1_countOf, .instanceMethod yX1_countOf, .selects RX1 yX1_countOf yX1_countOf, .code yX1_countOf cX1_countOf 4 (some .int), .fieldLink RX1 9 "PacketTraceback$MarkRecord" "counts" "[I", .methodLink RX1 51 yX1_countPlace, .static yX1_countPlace, .code yX1_countPlace cX1_countPlace 3 (some .int), .methodLink RX1 25 yX1_setPlace, .static yX1_setPlace, .code yX1_setPlace cX1_setPlace 2 (some .int)] ++ wsX50 ++ wsX10)
def wsX5_unmarkedCount : List Cond := .code yX5_unmarkedCount cX5_unmarkedCount 1 (some .int) :: ([.fieldLink RX5 33 "PacketTraceback" "marks" "LPacketTraceback$MarkRecord;", .methodLink RX5 120 yX1_unmarked, .instanceMethod yX1_unmarked, .selects RX1 yX1_unmarked yX1_unmarked, .initialized RX1, .code yX1_unmarked cX1_unmarked 1 (some .int), .fieldLink RX1 18 "PacketTraceback$MarkRecord" "unmarkedPackets" "I"] ++ wsX50 ++ wsX10)
def wsX5_markCount : List Cond := .code yX5_markCount cX5_markCount 4 (some .int) :: ([.fieldLink RX5 33 "PacketTraceback" "marks" "LPacketTraceback$MarkRecord;", .methodLink RX5 109 yX5_isMark, .static yX5_isMark, .initialized RX5, .code yX5_isMark cX5_isMark 3 (some .boolean), .methodLink RX5 63 yX5_isBelow, .static yX5_isBelow, .code yX5_isBelow cX5_isBelow 2 (some .boolean), .methodLink RX5 123 yX1_countOf, .instanceMethod yX1_countOf, .selects RX1 yX1_countOf yX1_countOf, .initialized RX1, .code yX1_countOf cX1_countOf 4 (some .int), .fieldLink RX1 9 "PacketTraceback$MarkRecord" "counts" "[I", .methodLink RX1 51 yX1_countPlace, .static yX1_countPlace, .code yX1_countPlace cX1_countPlace 3 (some .int), .methodLink RX1 25 yX1_setPlace, .static yX1_setPlace, .code yX1_setPlace cX1_setPlace 2 (some .int)] ++ wsX50 ++ wsX10)
def wsX5_fragmentCount : List Cond := .code yX5_fragmentCount cX5_fragmentCount 3 (some .int) :: ([.fieldLink RX5 33 "PacketTraceback" "marks" "LPacketTraceback$MarkRecord;", .methodLink RX5 63 yX5_isBelow, .static yX5_isBelow, .initialized RX5, .code yX5_isBelow cX5_isBelow 2 (some .boolean), .methodLink RX5 127 yX1_differentFragments, .instanceMethod yX1_differentFragments, .selects RX1 yX1_differentFragments yX1_differentFragments, .initialized RX1, .code yX1_differentFragments cX1_differentFragments 3 (some .int), .fieldLink RX1 15 "PacketTraceback$MarkRecord" "fragmentSets" "[I", .methodLink RX1 25 yX1_setPlace, .static yX1_setPlace, .code yX1_setPlace cX1_setPlace 2 (some .int), .methodLink RX1 58 yJ6_bitCount_0f7a4, .static yJ6_bitCount_0f7a4, .initialized RJ6, .code yJ6_bitCount_0f7a4 cJ6_bitCount_0f7a4 1 (some .int), .constant RJ6 265 (1431655765), .constant RJ6 266 (858993459), .constant RJ6 267 (252645135)] ++ wsX50 ++ wsX10)
def wsX5_greatestDistance : List Cond := .code yX5_greatestDistance cX5_greatestDistance 2 (some .int) :: ([.fieldLink RX5 33 "PacketTraceback" "marks" "LPacketTraceback$MarkRecord;", .methodLink RX5 130 yX1_hasDistance, .instanceMethod yX1_hasDistance, .selects RX1 yX1_hasDistance yX1_hasDistance, .initialized RX1, .code yX1_hasDistance cX1_hasDistance 3 (some .boolean), .fieldLink RX1 15 "PacketTraceback$MarkRecord" "fragmentSets" "[I", .methodLink RX1 25 yX1_setPlace, .static yX1_setPlace, .code yX1_setPlace cX1_setPlace 2 (some .int)] ++ wsX50 ++ wsX10)
def wsX5_isPathComplete_r1 : List Cond := [Cond.fieldLink RX5 10 "PacketTraceback" "network" "LPacketTraceback$Network;", Cond.fieldLink RX5 33 "PacketTraceback" "marks" "LPacketTraceback$MarkRecord;", Cond.methodLink RX5 59 yX2_has, Cond.instanceMethod yX2_has, Cond.selects RX2 yX2_has yX2_has, Cond.initialized RX2, Cond.code yX2_has cX2_has 2 (some .boolean), Cond.fieldLink RX2 21 "PacketTraceback$Network" "count" "I", Cond.static yX5_isBelow, Cond.initialized RX5, Cond.code yX5_isBelow cX5_isBelow 2 (some .boolean), Cond.methodLink RX5 79 yX2_depthOf, Cond.instanceMethod yX2_depthOf, Cond.selects RX2 yX2_depthOf yX2_depthOf, Cond.code yX2_depthOf cX2_depthOf 2 (some .int), Cond.fieldLink RX2 18 "PacketTraceback$Network" "depths" "[I", Cond.methodLink RX2 33 yX2_has, Cond.methodLink RX5 133 yX2_trueMarksOf, Cond.instanceMethod yX2_trueMarksOf, Cond.selects RX2 yX2_trueMarksOf yX2_trueMarksOf, Cond.code yX2_trueMarksOf cX2_trueMarksOf 3 (some .int), Cond.methodLink RX2 43 yX2_parentOf, Cond.instanceMethod yX2_parentOf, Cond.selects RX2 yX2_parentOf yX2_parentOf]
def wsX5_isPathComplete_r2 : List Cond := [Cond.code yX2_parentOf cX2_parentOf 2 (some .int), Cond.fieldLink RX2 9 "PacketTraceback$Network" "parents" "[I", Cond.methodLink RX2 46 yX2_wordAt, Cond.instanceMethod yX2_wordAt, Cond.selects RX2 yX2_wordAt yX2_wordAt, Cond.code yX2_wordAt cX2_wordAt 2 (some .int), Cond.methodLink RX2 37 yX2_addressOf, Cond.instanceMethod yX2_addressOf, Cond.selects RX2 yX2_addressOf yX2_addressOf, Cond.code yX2_addressOf cX2_addressOf 2 (some .int), Cond.fieldLink RX2 15 "PacketTraceback$Network" "addresses" "[I", Cond.static yX5_wordOf, Cond.code yX5_wordOf cX5_wordOf 1 (some .int), Cond.methodLink RX5 82 yX5_digestOf, Cond.static yX5_digestOf, Cond.code yX5_digestOf cX5_digestOf 1 (some .int), Cond.methodLink RX5 136 yX1_holdsWord, Cond.instanceMethod yX1_holdsWord, Cond.selects RX1 yX1_holdsWord yX1_holdsWord, Cond.initialized RX1, Cond.code yX1_holdsWord cX1_holdsWord 4 (some .boolean), Cond.methodLink RX1 70 yX1_holdsPart, Cond.instanceMethod yX1_holdsPart, Cond.selects RX1 yX1_holdsPart yX1_holdsPart]
def wsX5_isPathComplete_r3 : List Cond := [Cond.code yX1_holdsPart cX1_holdsPart 5 (some .boolean), Cond.fieldLink RX1 15 "PacketTraceback$MarkRecord" "fragmentSets" "[I", Cond.methodLink RX1 25 yX1_setPlace, Cond.static yX1_setPlace, Cond.code yX1_setPlace cX1_setPlace 2 (some .int), Cond.static yX5_fragmentOf, Cond.code yX5_fragmentOf cX5_fragmentOf 2 (some .int), Cond.methodLink RX5 139 yX2_parentOf]
def wsX5_isPathComplete : List Cond := .code yX5_isPathComplete cX5_isPathComplete 4 (some .int) :: ((wsX5_isPathComplete_r1 ++ (wsX5_isPathComplete_r2 ++ wsX5_isPathComplete_r3)) ++ wsX50 ++ wsX20 ++ wsX10)
def wsX5_isNewOnPath : List Cond := .code yX5_isNewOnPath cX5_isNewOnPath 3 (some .boolean) :: ([.fieldLink RX5 26 "PacketTraceback" "packet" "LPacketTraceback$Packet;", .fieldLink RX5 37 "PacketTraceback" "offsetsSeen" "[I", .methodLink RX5 200 yX4_distance, .instanceMethod yX4_distance, .selects RX4 yX4_distance yX4_distance, .initialized RX4, .code yX4_distance cX4_distance 1 (some .int), .fieldLink RX4 18 "PacketTraceback$Packet" "distance" "I", .methodLink RX5 172 yX4_isMarkedByRouter, .instanceMethod yX4_isMarkedByRouter, .selects RX4 yX4_isMarkedByRouter yX4_isMarkedByRouter, .code yX4_isMarkedByRouter cX4_isMarkedByRouter 1 (some .boolean), .fieldLink RX4 15 "PacketTraceback$Packet" "markedByRouter" "Z", .methodLink RX5 63 yX5_isBelow, .static yX5_isBelow, .initialized RX5, .code yX5_isBelow cX5_isBelow 2 (some .boolean), .methodLink RX5 203 yX4_offset, .instanceMethod yX4_offset, .selects RX4 yX4_offset yX4_offset, .code yX4_offset cX4_offset 1 (some .int), .fieldLink RX4 22 "PacketTraceback$Packet" "offset" "I"] ++ wsX50 ++ wsX40)
def wsX5_tryPackets_r1 : List Cond := [Cond.fieldLink RX5 37 "PacketTraceback" "offsetsSeen" "[I", Cond.fieldLink RX5 10 "PacketTraceback" "network" "LPacketTraceback$Network;", Cond.fieldLink RX5 26 "PacketTraceback" "packet" "LPacketTraceback$Packet;", Cond.methodLink RX5 191 yJ7_fill_53178, Cond.static yJ7_fill_53178, Cond.initialized RJ7, Cond.code yJ7_fill_53178 cJ7_fill_53178 4 none, Cond.methodLink RX5 79 yX2_depthOf, Cond.instanceMethod yX2_depthOf, Cond.selects RX2 yX2_depthOf yX2_depthOf, Cond.initialized RX2, Cond.code yX2_depthOf cX2_depthOf 2 (some .int), Cond.fieldLink RX2 18 "PacketTraceback$Network" "depths" "[I", Cond.methodLink RX2 33 yX2_has, Cond.instanceMethod yX2_has, Cond.selects RX2 yX2_has yX2_has, Cond.code yX2_has cX2_has 2 (some .boolean), Cond.fieldLink RX2 21 "PacketTraceback$Network" "count" "I", Cond.static yX5_isBelow, Cond.initialized RX5, Cond.code yX5_isBelow cX5_isBelow 2 (some .boolean), Cond.methodLink RX5 103 yX4_startUnmarked, Cond.instanceMethod yX4_startUnmarked, Cond.selects RX4 yX4_startUnmarked yX4_startUnmarked]
def wsX5_tryPackets_r2 : List Cond := [Cond.initialized RX4, Cond.code yX4_startUnmarked cX4_startUnmarked 1 none, Cond.fieldLink RX4 9 "PacketTraceback$Packet" "marked" "Z", Cond.fieldLink RX4 15 "PacketTraceback$Packet" "markedByRouter" "Z", Cond.methodLink RX4 28 yX4_putMark, Cond.instanceMethod yX4_putMark, Cond.selects RX4 yX4_putMark yX4_putMark, Cond.code yX4_putMark cX4_putMark 4 none, Cond.fieldLink RX4 18 "PacketTraceback$Packet" "distance" "I", Cond.fieldLink RX4 22 "PacketTraceback$Packet" "offset" "I", Cond.fieldLink RX4 25 "PacketTraceback$Packet" "fragment" "I", Cond.methodLink RX5 164 yX5_carryToVictim, Cond.instanceMethod yX5_carryToVictim, Cond.selects RX5 yX5_carryToVictim yX5_carryToVictim, Cond.code yX5_carryToVictim cX5_carryToVictim 4 none, Cond.methodLink RX5 59 yX2_has, Cond.methodLink RX5 175 yX2_wordAt, Cond.instanceMethod yX2_wordAt, Cond.selects RX2 yX2_wordAt yX2_wordAt, Cond.code yX2_wordAt cX2_wordAt 2 (some .int), Cond.methodLink RX2 37 yX2_addressOf, Cond.instanceMethod yX2_addressOf, Cond.selects RX2 yX2_addressOf yX2_addressOf, Cond.code yX2_addressOf cX2_addressOf 2 (some .int)]
def wsX5_tryPackets_r3 : List Cond := [Cond.fieldLink RX2 15 "PacketTraceback$Network" "addresses" "[I", Cond.static yX5_wordOf, Cond.code yX5_wordOf cX5_wordOf 1 (some .int), Cond.methodLink RX5 82 yX5_digestOf, Cond.static yX5_digestOf, Cond.code yX5_digestOf cX5_digestOf 1 (some .int), Cond.methodLink RX5 178 yX5_passRouter, Cond.instanceMethod yX5_passRouter, Cond.selects RX5 yX5_passRouter yX5_passRouter, Cond.code yX5_passRouter cX5_passRouter 3 none, Cond.fieldLink RX5 19 "PacketTraceback" "generator" "LPacketTraceback$Generator;", Cond.fieldLink RX5 41 "PacketTraceback" "markingPercent" "I", Cond.methodLink RX5 181 yX0_draw, Cond.instanceMethod yX0_draw, Cond.selects RX0 yX0_draw yX0_draw, Cond.initialized RX0, Cond.code yX0_draw cX0_draw 1 (some .int), Cond.fieldLink RX0 7 "PacketTraceback$Generator" "state" "I", Cond.constant RX0 13 (1103515245), Cond.methodLink RX5 88 yX5_fragmentOf, Cond.static yX5_fragmentOf, Cond.code yX5_fragmentOf cX5_fragmentOf 2 (some .int), Cond.methodLink RX5 184 yX4_takeMark, Cond.instanceMethod yX4_takeMark]
def wsX5_tryPackets_r4 : List Cond := [Cond.selects RX4 yX4_takeMark yX4_takeMark, Cond.code yX4_takeMark cX4_takeMark 3 none, Cond.methodLink RX5 188 yX4_goOn, Cond.instanceMethod yX4_goOn, Cond.selects RX4 yX4_goOn yX4_goOn, Cond.code yX4_goOn cX4_goOn 2 none, Cond.methodLink RX5 139 yX2_parentOf, Cond.instanceMethod yX2_parentOf, Cond.selects RX2 yX2_parentOf yX2_parentOf, Cond.code yX2_parentOf cX2_parentOf 2 (some .int), Cond.fieldLink RX2 9 "PacketTraceback$Network" "parents" "[I", Cond.methodLink RX5 197 yX5_isNewOnPath, Cond.instanceMethod yX5_isNewOnPath, Cond.selects RX5 yX5_isNewOnPath yX5_isNewOnPath, Cond.code yX5_isNewOnPath cX5_isNewOnPath 3 (some .boolean), Cond.methodLink RX5 200 yX4_distance, Cond.instanceMethod yX4_distance, Cond.selects RX4 yX4_distance yX4_distance, Cond.code yX4_distance cX4_distance 1 (some .int), Cond.methodLink RX5 172 yX4_isMarkedByRouter, Cond.instanceMethod yX4_isMarkedByRouter, Cond.selects RX4 yX4_isMarkedByRouter yX4_isMarkedByRouter, Cond.code yX4_isMarkedByRouter cX4_isMarkedByRouter 1 (some .boolean), Cond.methodLink RX5 63 yX5_isBelow]
def wsX5_tryPackets_r5 : List Cond := [Cond.methodLink RX5 203 yX4_offset, Cond.instanceMethod yX4_offset, Cond.selects RX4 yX4_offset yX4_offset, Cond.code yX4_offset cX4_offset 1 (some .int)]
def wsX5_tryPackets : List Cond := .code yX5_tryPackets cX5_tryPackets 5 (some .int) :: ((wsX5_tryPackets_r1 ++ (wsX5_tryPackets_r2 ++ (wsX5_tryPackets_r3 ++ (wsX5_tryPackets_r4 ++ wsX5_tryPackets_r5)))) ++ wsX50 ++ wsX20 ++ wsX40 ++ wsX00)
def wsX5_packetsNeeded_r1 : List Cond := [Cond.fieldLink RX5 10 "PacketTraceback" "network" "LPacketTraceback$Network;", Cond.fieldLink RX5 19 "PacketTraceback" "generator" "LPacketTraceback$Generator;", Cond.methodLink RX5 59 yX2_has, Cond.instanceMethod yX2_has, Cond.selects RX2 yX2_has yX2_has, Cond.initialized RX2, Cond.code yX2_has cX2_has 2 (some .boolean), Cond.fieldLink RX2 21 "PacketTraceback$Network" "count" "I", Cond.static yX5_isBelow, Cond.initialized RX5, Cond.code yX5_isBelow cX5_isBelow 2 (some .boolean), Cond.methodLink RX5 91 yX5_isFromOneTo, Cond.static yX5_isFromOneTo, Cond.code yX5_isFromOneTo cX5_isFromOneTo 2 (some .boolean), Cond.methodLink RX5 142 yX0_state, Cond.instanceMethod yX0_state, Cond.selects RX0 yX0_state yX0_state, Cond.initialized RX0, Cond.code yX0_state cX0_state 1 (some .int), Cond.fieldLink RX0 7 "PacketTraceback$Generator" "state" "I", Cond.methodLink RX5 145 yX5_tryPackets, Cond.instanceMethod yX5_tryPackets, Cond.selects RX5 yX5_tryPackets yX5_tryPackets, Cond.code yX5_tryPackets cX5_tryPackets 5 (some .int)]
def wsX5_packetsNeeded_r2 : List Cond := [Cond.fieldLink RX5 37 "PacketTraceback" "offsetsSeen" "[I", Cond.fieldLink RX5 26 "PacketTraceback" "packet" "LPacketTraceback$Packet;", Cond.methodLink RX5 191 yJ7_fill_53178, Cond.static yJ7_fill_53178, Cond.initialized RJ7, Cond.code yJ7_fill_53178 cJ7_fill_53178 4 none, Cond.methodLink RX5 79 yX2_depthOf, Cond.instanceMethod yX2_depthOf, Cond.selects RX2 yX2_depthOf yX2_depthOf, Cond.code yX2_depthOf cX2_depthOf 2 (some .int), Cond.fieldLink RX2 18 "PacketTraceback$Network" "depths" "[I", Cond.methodLink RX2 33 yX2_has, Cond.methodLink RX5 103 yX4_startUnmarked, Cond.instanceMethod yX4_startUnmarked, Cond.selects RX4 yX4_startUnmarked yX4_startUnmarked, Cond.initialized RX4, Cond.code yX4_startUnmarked cX4_startUnmarked 1 none, Cond.fieldLink RX4 9 "PacketTraceback$Packet" "marked" "Z", Cond.fieldLink RX4 15 "PacketTraceback$Packet" "markedByRouter" "Z", Cond.methodLink RX4 28 yX4_putMark, Cond.instanceMethod yX4_putMark, Cond.selects RX4 yX4_putMark yX4_putMark, Cond.code yX4_putMark cX4_putMark 4 none, Cond.fieldLink RX4 18 "PacketTraceback$Packet" "distance" "I"]
def wsX5_packetsNeeded_r3 : List Cond := [Cond.fieldLink RX4 22 "PacketTraceback$Packet" "offset" "I", Cond.fieldLink RX4 25 "PacketTraceback$Packet" "fragment" "I", Cond.methodLink RX5 164 yX5_carryToVictim, Cond.instanceMethod yX5_carryToVictim, Cond.selects RX5 yX5_carryToVictim yX5_carryToVictim, Cond.code yX5_carryToVictim cX5_carryToVictim 4 none, Cond.methodLink RX5 175 yX2_wordAt, Cond.instanceMethod yX2_wordAt, Cond.selects RX2 yX2_wordAt yX2_wordAt, Cond.code yX2_wordAt cX2_wordAt 2 (some .int), Cond.methodLink RX2 37 yX2_addressOf, Cond.instanceMethod yX2_addressOf, Cond.selects RX2 yX2_addressOf yX2_addressOf, Cond.code yX2_addressOf cX2_addressOf 2 (some .int), Cond.fieldLink RX2 15 "PacketTraceback$Network" "addresses" "[I", Cond.static yX5_wordOf, Cond.code yX5_wordOf cX5_wordOf 1 (some .int), Cond.methodLink RX5 82 yX5_digestOf, Cond.static yX5_digestOf, Cond.code yX5_digestOf cX5_digestOf 1 (some .int), Cond.methodLink RX5 178 yX5_passRouter, Cond.instanceMethod yX5_passRouter, Cond.selects RX5 yX5_passRouter yX5_passRouter, Cond.code yX5_passRouter cX5_passRouter 3 none]
def wsX5_packetsNeeded_r4 : List Cond := [Cond.fieldLink RX5 41 "PacketTraceback" "markingPercent" "I", Cond.methodLink RX5 181 yX0_draw, Cond.instanceMethod yX0_draw, Cond.selects RX0 yX0_draw yX0_draw, Cond.code yX0_draw cX0_draw 1 (some .int), Cond.constant RX0 13 (1103515245), Cond.methodLink RX5 88 yX5_fragmentOf, Cond.static yX5_fragmentOf, Cond.code yX5_fragmentOf cX5_fragmentOf 2 (some .int), Cond.methodLink RX5 184 yX4_takeMark, Cond.instanceMethod yX4_takeMark, Cond.selects RX4 yX4_takeMark yX4_takeMark, Cond.code yX4_takeMark cX4_takeMark 3 none, Cond.methodLink RX5 188 yX4_goOn, Cond.instanceMethod yX4_goOn, Cond.selects RX4 yX4_goOn yX4_goOn, Cond.code yX4_goOn cX4_goOn 2 none, Cond.methodLink RX5 139 yX2_parentOf, Cond.instanceMethod yX2_parentOf, Cond.selects RX2 yX2_parentOf yX2_parentOf, Cond.code yX2_parentOf cX2_parentOf 2 (some .int), Cond.fieldLink RX2 9 "PacketTraceback$Network" "parents" "[I", Cond.methodLink RX5 197 yX5_isNewOnPath, Cond.instanceMethod yX5_isNewOnPath]
def wsX5_packetsNeeded_r5 : List Cond := [Cond.selects RX5 yX5_isNewOnPath yX5_isNewOnPath, Cond.code yX5_isNewOnPath cX5_isNewOnPath 3 (some .boolean), Cond.methodLink RX5 200 yX4_distance, Cond.instanceMethod yX4_distance, Cond.selects RX4 yX4_distance yX4_distance, Cond.code yX4_distance cX4_distance 1 (some .int), Cond.methodLink RX5 172 yX4_isMarkedByRouter, Cond.instanceMethod yX4_isMarkedByRouter, Cond.selects RX4 yX4_isMarkedByRouter yX4_isMarkedByRouter, Cond.code yX4_isMarkedByRouter cX4_isMarkedByRouter 1 (some .boolean), Cond.methodLink RX5 63 yX5_isBelow, Cond.methodLink RX5 203 yX4_offset, Cond.instanceMethod yX4_offset, Cond.selects RX4 yX4_offset yX4_offset, Cond.code yX4_offset cX4_offset 1 (some .int), Cond.methodLink RX5 94 yX0_restart, Cond.instanceMethod yX0_restart, Cond.selects RX0 yX0_restart yX0_restart, Cond.code yX0_restart cX0_restart 3 (some .int)]
def wsX5_packetsNeeded : List Cond := .code yX5_packetsNeeded cX5_packetsNeeded 5 (some .int) :: ((wsX5_packetsNeeded_r1 ++ (wsX5_packetsNeeded_r2 ++ (wsX5_packetsNeeded_r3 ++ (wsX5_packetsNeeded_r4 ++ wsX5_packetsNeeded_r5)))) ++ wsX50 ++ wsX20 ++ wsX00 ++ wsX40)
def wsX5_findChildren_r1 : List Cond := [Cond.fieldLink RX5 33 "PacketTraceback" "marks" "LPacketTraceback$MarkRecord;", Cond.fieldLink RX5 52 "PacketTraceback" "spareNodes" "LPacketTraceback$NodeTable;", Cond.methodLink RX5 85 yX5_wordOf, Cond.static yX5_wordOf, Cond.initialized RX5, Cond.code yX5_wordOf cX5_wordOf 1 (some .int), Cond.methodLink RX5 82 yX5_digestOf, Cond.static yX5_digestOf, Cond.code yX5_digestOf cX5_digestOf 1 (some .int), Cond.methodLink RX5 215 yX1_holdsPart, Cond.instanceMethod yX1_holdsPart, Cond.selects RX1 yX1_holdsPart yX1_holdsPart, Cond.initialized RX1, Cond.code yX1_holdsPart cX1_holdsPart 5 (some .boolean), Cond.fieldLink RX1 15 "PacketTraceback$MarkRecord" "fragmentSets" "[I", Cond.methodLink RX1 25 yX1_setPlace, Cond.static yX1_setPlace, Cond.code yX1_setPlace cX1_setPlace 2 (some .int), Cond.static yX5_fragmentOf, Cond.code yX5_fragmentOf cX5_fragmentOf 2 (some .int), Cond.methodLink RX5 136 yX1_holdsWord, Cond.instanceMethod yX1_holdsWord, Cond.selects RX1 yX1_holdsWord yX1_holdsWord, Cond.code yX1_holdsWord cX1_holdsWord 4 (some .boolean)]
def wsX5_findChildren_r2 : List Cond := [Cond.methodLink RX1 70 yX1_holdsPart, Cond.methodLink RX5 218 yX3_append, Cond.instanceMethod yX3_append, Cond.selects RX3 yX3_append yX3_append, Cond.initialized RX3, Cond.code yX3_append cX3_append 4 (some .boolean), Cond.fieldLink RX3 21 "PacketTraceback$NodeTable" "count" "I", Cond.fieldLink RX3 9 "PacketTraceback$NodeTable" "addresses" "[I", Cond.fieldLink RX3 15 "PacketTraceback$NodeTable" "distances" "[I", Cond.fieldLink RX3 18 "PacketTraceback$NodeTable" "parents" "[I", Cond.static yX5_isBelow, Cond.code yX5_isBelow cX5_isBelow 2 (some .boolean)]
def wsX5_findChildren : List Cond := .code yX5_findChildren cX5_findChildren 7 (some .boolean) :: ((wsX5_findChildren_r1 ++ wsX5_findChildren_r2) ++ wsX50 ++ wsX10 ++ wsX30)
def wsX5_findLevel_r1 : List Cond := [Cond.fieldLink RX5 52 "PacketTraceback" "spareNodes" "LPacketTraceback$NodeTable;", Cond.methodLink RX5 212 yX5_findChildren, Cond.instanceMethod yX5_findChildren, Cond.selects RX5 yX5_findChildren yX5_findChildren, Cond.initialized RX5, Cond.code yX5_findChildren cX5_findChildren 7 (some .boolean), Cond.fieldLink RX5 33 "PacketTraceback" "marks" "LPacketTraceback$MarkRecord;", Cond.methodLink RX5 85 yX5_wordOf, Cond.static yX5_wordOf, Cond.code yX5_wordOf cX5_wordOf 1 (some .int), Cond.methodLink RX5 82 yX5_digestOf, Cond.static yX5_digestOf, Cond.code yX5_digestOf cX5_digestOf 1 (some .int), Cond.methodLink RX5 215 yX1_holdsPart, Cond.instanceMethod yX1_holdsPart, Cond.selects RX1 yX1_holdsPart yX1_holdsPart, Cond.initialized RX1, Cond.code yX1_holdsPart cX1_holdsPart 5 (some .boolean), Cond.fieldLink RX1 15 "PacketTraceback$MarkRecord" "fragmentSets" "[I", Cond.methodLink RX1 25 yX1_setPlace, Cond.static yX1_setPlace, Cond.code yX1_setPlace cX1_setPlace 2 (some .int), Cond.static yX5_fragmentOf, Cond.code yX5_fragmentOf cX5_fragmentOf 2 (some .int)]
def wsX5_findLevel_r2 : List Cond := [Cond.methodLink RX5 136 yX1_holdsWord, Cond.instanceMethod yX1_holdsWord, Cond.selects RX1 yX1_holdsWord yX1_holdsWord, Cond.code yX1_holdsWord cX1_holdsWord 4 (some .boolean), Cond.methodLink RX1 70 yX1_holdsPart, Cond.methodLink RX5 218 yX3_append, Cond.instanceMethod yX3_append, Cond.selects RX3 yX3_append yX3_append, Cond.initialized RX3, Cond.code yX3_append cX3_append 4 (some .boolean), Cond.fieldLink RX3 21 "PacketTraceback$NodeTable" "count" "I", Cond.fieldLink RX3 9 "PacketTraceback$NodeTable" "addresses" "[I", Cond.fieldLink RX3 15 "PacketTraceback$NodeTable" "distances" "[I", Cond.fieldLink RX3 18 "PacketTraceback$NodeTable" "parents" "[I", Cond.static yX5_isBelow, Cond.code yX5_isBelow cX5_isBelow 2 (some .boolean), Cond.methodLink RX5 154 yX3_addressOf, Cond.instanceMethod yX3_addressOf, Cond.selects RX3 yX3_addressOf yX3_addressOf, Cond.code yX3_addressOf cX3_addressOf 2 (some .int), Cond.methodLink RX3 29 yX3_has, Cond.instanceMethod yX3_has, Cond.selects RX3 yX3_has yX3_has, Cond.code yX3_has cX3_has 2 (some .boolean)]
def wsX5_findLevel : List Cond := .code yX5_findLevel cX5_findLevel 5 (some .boolean) :: ((wsX5_findLevel_r1 ++ wsX5_findLevel_r2) ++ wsX50 ++ wsX10 ++ wsX30)
def wsX5_findTree_r1 : List Cond := [Cond.fieldLink RX5 52 "PacketTraceback" "spareNodes" "LPacketTraceback$NodeTable;", Cond.fieldLink RX5 33 "PacketTraceback" "marks" "LPacketTraceback$MarkRecord;", Cond.methodLink RX5 152 yX3_size, Cond.instanceMethod yX3_size, Cond.selects RX3 yX3_size yX3_size, Cond.initialized RX3, Cond.code yX3_size cX3_size 1 (some .int), Cond.fieldLink RX3 21 "PacketTraceback$NodeTable" "count" "I", Cond.methodLink RX5 206 yX1_combinations, Cond.instanceMethod yX1_combinations, Cond.selects RX1 yX1_combinations yX1_combinations, Cond.initialized RX1, Cond.code yX1_combinations cX1_combinations 4 (some .int), Cond.methodLink RX1 64 yX1_differentFragments, Cond.instanceMethod yX1_differentFragments, Cond.selects RX1 yX1_differentFragments yX1_differentFragments, Cond.code yX1_differentFragments cX1_differentFragments 3 (some .int), Cond.fieldLink RX1 15 "PacketTraceback$MarkRecord" "fragmentSets" "[I", Cond.methodLink RX1 25 yX1_setPlace, Cond.static yX1_setPlace, Cond.code yX1_setPlace cX1_setPlace 2 (some .int), Cond.methodLink RX1 58 yJ6_bitCount_0f7a4, Cond.static yJ6_bitCount_0f7a4, Cond.initialized RJ6]
def wsX5_findTree_r2 : List Cond := [Cond.code yJ6_bitCount_0f7a4 cJ6_bitCount_0f7a4 1 (some .int), Cond.constant RJ6 265 (1431655765), Cond.constant RJ6 266 (858993459), Cond.constant RJ6 267 (252645135), Cond.methodLink RX5 209 yX5_findLevel, Cond.instanceMethod yX5_findLevel, Cond.selects RX5 yX5_findLevel yX5_findLevel, Cond.initialized RX5, Cond.code yX5_findLevel cX5_findLevel 5 (some .boolean), Cond.methodLink RX5 212 yX5_findChildren, Cond.instanceMethod yX5_findChildren, Cond.selects RX5 yX5_findChildren yX5_findChildren, Cond.code yX5_findChildren cX5_findChildren 7 (some .boolean), Cond.methodLink RX5 85 yX5_wordOf, Cond.static yX5_wordOf, Cond.code yX5_wordOf cX5_wordOf 1 (some .int), Cond.methodLink RX5 82 yX5_digestOf, Cond.static yX5_digestOf, Cond.code yX5_digestOf cX5_digestOf 1 (some .int), Cond.methodLink RX5 215 yX1_holdsPart, Cond.instanceMethod yX1_holdsPart, Cond.selects RX1 yX1_holdsPart yX1_holdsPart, Cond.code yX1_holdsPart cX1_holdsPart 5 (some .boolean), Cond.static yX5_fragmentOf]
def wsX5_findTree_r3 : List Cond := [Cond.code yX5_fragmentOf cX5_fragmentOf 2 (some .int), Cond.methodLink RX5 136 yX1_holdsWord, Cond.instanceMethod yX1_holdsWord, Cond.selects RX1 yX1_holdsWord yX1_holdsWord, Cond.code yX1_holdsWord cX1_holdsWord 4 (some .boolean), Cond.methodLink RX1 70 yX1_holdsPart, Cond.methodLink RX5 218 yX3_append, Cond.instanceMethod yX3_append, Cond.selects RX3 yX3_append yX3_append, Cond.code yX3_append cX3_append 4 (some .boolean), Cond.fieldLink RX3 9 "PacketTraceback$NodeTable" "addresses" "[I", Cond.fieldLink RX3 15 "PacketTraceback$NodeTable" "distances" "[I", Cond.fieldLink RX3 18 "PacketTraceback$NodeTable" "parents" "[I", Cond.static yX5_isBelow, Cond.code yX5_isBelow cX5_isBelow 2 (some .boolean), Cond.methodLink RX5 154 yX3_addressOf, Cond.instanceMethod yX3_addressOf, Cond.selects RX3 yX3_addressOf yX3_addressOf, Cond.code yX3_addressOf cX3_addressOf 2 (some .int), Cond.methodLink RX3 29 yX3_has, Cond.instanceMethod yX3_has, Cond.selects RX3 yX3_has yX3_has, Cond.code yX3_has cX3_has 2 (some .boolean)]
def wsX5_findTree : List Cond := .code yX5_findTree cX5_findTree 4 (some .boolean) :: ((wsX5_findTree_r1 ++ (wsX5_findTree_r2 ++ wsX5_findTree_r3)) ++ wsX50 ++ wsX30 ++ wsX10)
def wsX5_reconstruct_r1 : List Cond := [Cond.fieldLink RX5 52 "PacketTraceback" "spareNodes" "LPacketTraceback$NodeTable;", Cond.fieldLink RX5 48 "PacketTraceback" "nodes" "LPacketTraceback$NodeTable;", Cond.methodLink RX5 148 yX3_clear, Cond.instanceMethod yX3_clear, Cond.selects RX3 yX3_clear yX3_clear, Cond.initialized RX3, Cond.code yX3_clear cX3_clear 1 none, Cond.fieldLink RX3 21 "PacketTraceback$NodeTable" "count" "I", Cond.methodLink RX5 149 yX5_findTree, Cond.instanceMethod yX5_findTree, Cond.selects RX5 yX5_findTree yX5_findTree, Cond.initialized RX5, Cond.code yX5_findTree cX5_findTree 4 (some .boolean), Cond.fieldLink RX5 33 "PacketTraceback" "marks" "LPacketTraceback$MarkRecord;", Cond.methodLink RX5 152 yX3_size, Cond.instanceMethod yX3_size, Cond.selects RX3 yX3_size yX3_size, Cond.code yX3_size cX3_size 1 (some .int), Cond.methodLink RX5 206 yX1_combinations, Cond.instanceMethod yX1_combinations, Cond.selects RX1 yX1_combinations yX1_combinations, Cond.initialized RX1, Cond.code yX1_combinations cX1_combinations 4 (some .int), Cond.methodLink RX1 64 yX1_differentFragments]
def wsX5_reconstruct_r2 : List Cond := [Cond.instanceMethod yX1_differentFragments, Cond.selects RX1 yX1_differentFragments yX1_differentFragments, Cond.code yX1_differentFragments cX1_differentFragments 3 (some .int), Cond.fieldLink RX1 15 "PacketTraceback$MarkRecord" "fragmentSets" "[I", Cond.methodLink RX1 25 yX1_setPlace, Cond.static yX1_setPlace, Cond.code yX1_setPlace cX1_setPlace 2 (some .int), Cond.methodLink RX1 58 yJ6_bitCount_0f7a4, Cond.static yJ6_bitCount_0f7a4, Cond.initialized RJ6, Cond.code yJ6_bitCount_0f7a4 cJ6_bitCount_0f7a4 1 (some .int), Cond.constant RJ6 265 (1431655765), Cond.constant RJ6 266 (858993459), Cond.constant RJ6 267 (252645135), Cond.methodLink RX5 209 yX5_findLevel, Cond.instanceMethod yX5_findLevel, Cond.selects RX5 yX5_findLevel yX5_findLevel, Cond.code yX5_findLevel cX5_findLevel 5 (some .boolean), Cond.methodLink RX5 212 yX5_findChildren, Cond.instanceMethod yX5_findChildren, Cond.selects RX5 yX5_findChildren yX5_findChildren, Cond.code yX5_findChildren cX5_findChildren 7 (some .boolean), Cond.methodLink RX5 85 yX5_wordOf, Cond.static yX5_wordOf]
def wsX5_reconstruct_r3 : List Cond := [Cond.code yX5_wordOf cX5_wordOf 1 (some .int), Cond.methodLink RX5 82 yX5_digestOf, Cond.static yX5_digestOf, Cond.code yX5_digestOf cX5_digestOf 1 (some .int), Cond.methodLink RX5 215 yX1_holdsPart, Cond.instanceMethod yX1_holdsPart, Cond.selects RX1 yX1_holdsPart yX1_holdsPart, Cond.code yX1_holdsPart cX1_holdsPart 5 (some .boolean), Cond.static yX5_fragmentOf, Cond.code yX5_fragmentOf cX5_fragmentOf 2 (some .int), Cond.methodLink RX5 136 yX1_holdsWord, Cond.instanceMethod yX1_holdsWord, Cond.selects RX1 yX1_holdsWord yX1_holdsWord, Cond.code yX1_holdsWord cX1_holdsWord 4 (some .boolean), Cond.methodLink RX1 70 yX1_holdsPart, Cond.methodLink RX5 218 yX3_append, Cond.instanceMethod yX3_append, Cond.selects RX3 yX3_append yX3_append, Cond.code yX3_append cX3_append 4 (some .boolean), Cond.fieldLink RX3 9 "PacketTraceback$NodeTable" "addresses" "[I", Cond.fieldLink RX3 15 "PacketTraceback$NodeTable" "distances" "[I", Cond.fieldLink RX3 18 "PacketTraceback$NodeTable" "parents" "[I", Cond.static yX5_isBelow, Cond.code yX5_isBelow cX5_isBelow 2 (some .boolean)]
def wsX5_reconstruct_r4 : List Cond := [Cond.methodLink RX5 154 yX3_addressOf, Cond.instanceMethod yX3_addressOf, Cond.selects RX3 yX3_addressOf yX3_addressOf, Cond.code yX3_addressOf cX3_addressOf 2 (some .int), Cond.methodLink RX3 29 yX3_has, Cond.instanceMethod yX3_has, Cond.selects RX3 yX3_has yX3_has, Cond.code yX3_has cX3_has 2 (some .boolean)]
def wsX5_reconstruct : List Cond := .code yX5_reconstruct cX5_reconstruct 2 (some .int) :: ((wsX5_reconstruct_r1 ++ (wsX5_reconstruct_r2 ++ (wsX5_reconstruct_r3 ++ wsX5_reconstruct_r4))) ++ wsX50 ++ wsX30 ++ wsX10)
def wsX5_nodeCount : List Cond := .code yX5_nodeCount cX5_nodeCount 1 (some .int) :: ([.fieldLink RX5 48 "PacketTraceback" "nodes" "LPacketTraceback$NodeTable;", .methodLink RX5 152 yX3_size, .instanceMethod yX3_size, .selects RX3 yX3_size yX3_size, .initialized RX3, .code yX3_size cX3_size 1 (some .int), .fieldLink RX3 21 "PacketTraceback$NodeTable" "count" "I"] ++ wsX50 ++ wsX30)
def wsX5_nodeAddress : List Cond := .code yX5_nodeAddress cX5_nodeAddress 2 (some .int) :: ([.fieldLink RX5 48 "PacketTraceback" "nodes" "LPacketTraceback$NodeTable;", .methodLink RX5 153 yX3_has, .instanceMethod yX3_has, .selects RX3 yX3_has yX3_has, .initialized RX3, .code yX3_has cX3_has 2 (some .boolean), .fieldLink RX3 21 "PacketTraceback$NodeTable" "count" "I", .static yX5_isBelow, .initialized RX5, .code yX5_isBelow cX5_isBelow 2 (some .boolean), .methodLink RX5 154 yX3_addressOf, .instanceMethod yX3_addressOf, .selects RX3 yX3_addressOf yX3_addressOf, .code yX3_addressOf cX3_addressOf 2 (some .int), .fieldLink RX3 9 "PacketTraceback$NodeTable" "addresses" "[I", .methodLink RX3 29 yX3_has] ++ wsX50 ++ wsX30)
def wsX5_nodeDistance : List Cond := .code yX5_nodeDistance cX5_nodeDistance 2 (some .int) :: ([.fieldLink RX5 48 "PacketTraceback" "nodes" "LPacketTraceback$NodeTable;", .methodLink RX5 153 yX3_has, .instanceMethod yX3_has, .selects RX3 yX3_has yX3_has, .initialized RX3, .code yX3_has cX3_has 2 (some .boolean), .fieldLink RX3 21 "PacketTraceback$NodeTable" "count" "I", .static yX5_isBelow, .initialized RX5, .code yX5_isBelow cX5_isBelow 2 (some .boolean), .methodLink RX5 157 yX3_distanceOf, .instanceMethod yX3_distanceOf, .selects RX3 yX3_distanceOf yX3_distanceOf, .code yX3_distanceOf cX3_distanceOf 2 (some .int), .fieldLink RX3 15 "PacketTraceback$NodeTable" "distances" "[I", .methodLink RX3 29 yX3_has] ++ wsX50 ++ wsX30)
def wsX5_nodeParent : List Cond := .code yX5_nodeParent cX5_nodeParent 2 (some .int) :: ([.fieldLink RX5 48 "PacketTraceback" "nodes" "LPacketTraceback$NodeTable;", .methodLink RX5 153 yX3_has, .instanceMethod yX3_has, .selects RX3 yX3_has yX3_has, .initialized RX3, .code yX3_has cX3_has 2 (some .boolean), .fieldLink RX3 21 "PacketTraceback$NodeTable" "count" "I", .static yX5_isBelow, .initialized RX5, .code yX5_isBelow cX5_isBelow 2 (some .boolean), .methodLink RX5 160 yX3_parentOf, .instanceMethod yX3_parentOf, .selects RX3 yX3_parentOf yX3_parentOf, .code yX3_parentOf cX3_parentOf 2 (some .int), .fieldLink RX3 18 "PacketTraceback$NodeTable" "parents" "[I", .methodLink RX3 29 yX3_has] ++ wsX50 ++ wsX30)
def wsX5_routerBehind_r1 : List Cond := [Cond.fieldLink RX5 10 "PacketTraceback" "network" "LPacketTraceback$Network;", Cond.fieldLink RX5 48 "PacketTraceback" "nodes" "LPacketTraceback$NodeTable;", Cond.methodLink RX5 154 yX3_addressOf, Cond.instanceMethod yX3_addressOf, Cond.selects RX3 yX3_addressOf yX3_addressOf, Cond.initialized RX3, Cond.code yX3_addressOf cX3_addressOf 2 (some .int), Cond.fieldLink RX3 9 "PacketTraceback$NodeTable" "addresses" "[I", Cond.methodLink RX3 29 yX3_has, Cond.instanceMethod yX3_has, Cond.selects RX3 yX3_has yX3_has, Cond.code yX3_has cX3_has 2 (some .boolean), Cond.fieldLink RX3 21 "PacketTraceback$NodeTable" "count" "I", Cond.static yX5_isBelow, Cond.initialized RX5, Cond.code yX5_isBelow cX5_isBelow 2 (some .boolean), Cond.methodLink RX5 67 yX2_find, Cond.instanceMethod yX2_find, Cond.selects RX2 yX2_find yX2_find, Cond.initialized RX2, Cond.code yX2_find cX2_find 3 (some .int), Cond.fieldLink RX2 21 "PacketTraceback$Network" "count" "I", Cond.fieldLink RX2 15 "PacketTraceback$Network" "addresses" "[I", Cond.methodLink RX5 59 yX2_has]
def wsX5_routerBehind_r2 : List Cond := [Cond.instanceMethod yX2_has, Cond.selects RX2 yX2_has yX2_has, Cond.code yX2_has cX2_has 2 (some .boolean), Cond.methodLink RX5 153 yX3_has, Cond.methodLink RX5 220 yX2_addressOf, Cond.instanceMethod yX2_addressOf, Cond.selects RX2 yX2_addressOf yX2_addressOf, Cond.code yX2_addressOf cX2_addressOf 2 (some .int), Cond.methodLink RX2 33 yX2_has, Cond.methodLink RX5 139 yX2_parentOf, Cond.instanceMethod yX2_parentOf, Cond.selects RX2 yX2_parentOf yX2_parentOf, Cond.code yX2_parentOf cX2_parentOf 2 (some .int), Cond.fieldLink RX2 9 "PacketTraceback$Network" "parents" "[I", Cond.methodLink RX5 160 yX3_parentOf, Cond.instanceMethod yX3_parentOf, Cond.selects RX3 yX3_parentOf yX3_parentOf, Cond.code yX3_parentOf cX3_parentOf 2 (some .int), Cond.fieldLink RX3 18 "PacketTraceback$NodeTable" "parents" "[I"]
def wsX5_routerBehind : List Cond := .code yX5_routerBehind cX5_routerBehind 6 (some .int) :: ((wsX5_routerBehind_r1 ++ wsX5_routerBehind_r2) ++ wsX50 ++ wsX30 ++ wsX20)
def wsX5_nodeRouter_r1 : List Cond := [Cond.fieldLink RX5 48 "PacketTraceback" "nodes" "LPacketTraceback$NodeTable;", Cond.methodLink RX5 153 yX3_has, Cond.instanceMethod yX3_has, Cond.selects RX3 yX3_has yX3_has, Cond.initialized RX3, Cond.code yX3_has cX3_has 2 (some .boolean), Cond.fieldLink RX3 21 "PacketTraceback$NodeTable" "count" "I", Cond.static yX5_isBelow, Cond.initialized RX5, Cond.code yX5_isBelow cX5_isBelow 2 (some .boolean), Cond.methodLink RX5 161 yX5_routerBehind, Cond.instanceMethod yX5_routerBehind, Cond.selects RX5 yX5_routerBehind yX5_routerBehind, Cond.code yX5_routerBehind cX5_routerBehind 6 (some .int), Cond.fieldLink RX5 10 "PacketTraceback" "network" "LPacketTraceback$Network;", Cond.methodLink RX5 154 yX3_addressOf, Cond.instanceMethod yX3_addressOf, Cond.selects RX3 yX3_addressOf yX3_addressOf, Cond.code yX3_addressOf cX3_addressOf 2 (some .int), Cond.fieldLink RX3 9 "PacketTraceback$NodeTable" "addresses" "[I", Cond.methodLink RX3 29 yX3_has, Cond.methodLink RX5 67 yX2_find, Cond.instanceMethod yX2_find, Cond.selects RX2 yX2_find yX2_find]
def wsX5_nodeRouter_r2 : List Cond := [Cond.initialized RX2, Cond.code yX2_find cX2_find 3 (some .int), Cond.fieldLink RX2 21 "PacketTraceback$Network" "count" "I", Cond.fieldLink RX2 15 "PacketTraceback$Network" "addresses" "[I", Cond.methodLink RX5 59 yX2_has, Cond.instanceMethod yX2_has, Cond.selects RX2 yX2_has yX2_has, Cond.code yX2_has cX2_has 2 (some .boolean), Cond.methodLink RX5 220 yX2_addressOf, Cond.instanceMethod yX2_addressOf, Cond.selects RX2 yX2_addressOf yX2_addressOf, Cond.code yX2_addressOf cX2_addressOf 2 (some .int), Cond.methodLink RX2 33 yX2_has, Cond.methodLink RX5 139 yX2_parentOf, Cond.instanceMethod yX2_parentOf, Cond.selects RX2 yX2_parentOf yX2_parentOf, Cond.code yX2_parentOf cX2_parentOf 2 (some .int), Cond.fieldLink RX2 9 "PacketTraceback$Network" "parents" "[I", Cond.methodLink RX5 160 yX3_parentOf, Cond.instanceMethod yX3_parentOf, Cond.selects RX3 yX3_parentOf yX3_parentOf, Cond.code yX3_parentOf cX3_parentOf 2 (some .int), Cond.fieldLink RX3 18 "PacketTraceback$NodeTable" "parents" "[I"]
def wsX5_nodeRouter : List Cond := .code yX5_nodeRouter cX5_nodeRouter 2 (some .int) :: ((wsX5_nodeRouter_r1 ++ wsX5_nodeRouter_r2) ++ wsX50 ++ wsX30 ++ wsX20)
def wsX5_falseNodeCount_r1 : List Cond := [Cond.fieldLink RX5 48 "PacketTraceback" "nodes" "LPacketTraceback$NodeTable;", Cond.methodLink RX5 152 yX3_size, Cond.instanceMethod yX3_size, Cond.selects RX3 yX3_size yX3_size, Cond.initialized RX3, Cond.code yX3_size cX3_size 1 (some .int), Cond.fieldLink RX3 21 "PacketTraceback$NodeTable" "count" "I", Cond.methodLink RX5 161 yX5_routerBehind, Cond.instanceMethod yX5_routerBehind, Cond.selects RX5 yX5_routerBehind yX5_routerBehind, Cond.initialized RX5, Cond.code yX5_routerBehind cX5_routerBehind 6 (some .int), Cond.fieldLink RX5 10 "PacketTraceback" "network" "LPacketTraceback$Network;", Cond.methodLink RX5 154 yX3_addressOf, Cond.instanceMethod yX3_addressOf, Cond.selects RX3 yX3_addressOf yX3_addressOf, Cond.code yX3_addressOf cX3_addressOf 2 (some .int), Cond.fieldLink RX3 9 "PacketTraceback$NodeTable" "addresses" "[I", Cond.methodLink RX3 29 yX3_has, Cond.instanceMethod yX3_has, Cond.selects RX3 yX3_has yX3_has, Cond.code yX3_has cX3_has 2 (some .boolean), Cond.static yX5_isBelow, Cond.code yX5_isBelow cX5_isBelow 2 (some .boolean)]
def wsX5_falseNodeCount_r2 : List Cond := [Cond.methodLink RX5 67 yX2_find, Cond.instanceMethod yX2_find, Cond.selects RX2 yX2_find yX2_find, Cond.initialized RX2, Cond.code yX2_find cX2_find 3 (some .int), Cond.fieldLink RX2 21 "PacketTraceback$Network" "count" "I", Cond.fieldLink RX2 15 "PacketTraceback$Network" "addresses" "[I", Cond.methodLink RX5 59 yX2_has, Cond.instanceMethod yX2_has, Cond.selects RX2 yX2_has yX2_has, Cond.code yX2_has cX2_has 2 (some .boolean), Cond.methodLink RX5 153 yX3_has, Cond.methodLink RX5 220 yX2_addressOf, Cond.instanceMethod yX2_addressOf, Cond.selects RX2 yX2_addressOf yX2_addressOf, Cond.code yX2_addressOf cX2_addressOf 2 (some .int), Cond.methodLink RX2 33 yX2_has, Cond.methodLink RX5 139 yX2_parentOf, Cond.instanceMethod yX2_parentOf, Cond.selects RX2 yX2_parentOf yX2_parentOf, Cond.code yX2_parentOf cX2_parentOf 2 (some .int), Cond.fieldLink RX2 9 "PacketTraceback$Network" "parents" "[I", Cond.methodLink RX5 160 yX3_parentOf, Cond.instanceMethod yX3_parentOf]
def wsX5_falseNodeCount_r3 : List Cond := [Cond.selects RX3 yX3_parentOf yX3_parentOf, Cond.code yX3_parentOf cX3_parentOf 2 (some .int), Cond.fieldLink RX3 18 "PacketTraceback$NodeTable" "parents" "[I"]
def wsX5_falseNodeCount : List Cond := .code yX5_falseNodeCount cX5_falseNodeCount 3 (some .int) :: ((wsX5_falseNodeCount_r1 ++ (wsX5_falseNodeCount_r2 ++ wsX5_falseNodeCount_r3)) ++ wsX50 ++ wsX30 ++ wsX20)
def wsX5_nodeOf_r1 : List Cond := [Cond.fieldLink RX5 10 "PacketTraceback" "network" "LPacketTraceback$Network;", Cond.fieldLink RX5 48 "PacketTraceback" "nodes" "LPacketTraceback$NodeTable;", Cond.methodLink RX5 59 yX2_has, Cond.instanceMethod yX2_has, Cond.selects RX2 yX2_has yX2_has, Cond.initialized RX2, Cond.code yX2_has cX2_has 2 (some .boolean), Cond.fieldLink RX2 21 "PacketTraceback$Network" "count" "I", Cond.static yX5_isBelow, Cond.initialized RX5, Cond.code yX5_isBelow cX5_isBelow 2 (some .boolean), Cond.methodLink RX5 152 yX3_size, Cond.instanceMethod yX3_size, Cond.selects RX3 yX3_size yX3_size, Cond.initialized RX3, Cond.code yX3_size cX3_size 1 (some .int), Cond.fieldLink RX3 21 "PacketTraceback$NodeTable" "count" "I", Cond.methodLink RX5 161 yX5_routerBehind, Cond.instanceMethod yX5_routerBehind, Cond.selects RX5 yX5_routerBehind yX5_routerBehind, Cond.code yX5_routerBehind cX5_routerBehind 6 (some .int), Cond.methodLink RX5 154 yX3_addressOf, Cond.instanceMethod yX3_addressOf, Cond.selects RX3 yX3_addressOf yX3_addressOf]
def wsX5_nodeOf_r2 : List Cond := [Cond.code yX3_addressOf cX3_addressOf 2 (some .int), Cond.fieldLink RX3 9 "PacketTraceback$NodeTable" "addresses" "[I", Cond.methodLink RX3 29 yX3_has, Cond.instanceMethod yX3_has, Cond.selects RX3 yX3_has yX3_has, Cond.code yX3_has cX3_has 2 (some .boolean), Cond.methodLink RX5 67 yX2_find, Cond.instanceMethod yX2_find, Cond.selects RX2 yX2_find yX2_find, Cond.code yX2_find cX2_find 3 (some .int), Cond.fieldLink RX2 15 "PacketTraceback$Network" "addresses" "[I", Cond.methodLink RX5 153 yX3_has, Cond.methodLink RX5 220 yX2_addressOf, Cond.instanceMethod yX2_addressOf, Cond.selects RX2 yX2_addressOf yX2_addressOf, Cond.code yX2_addressOf cX2_addressOf 2 (some .int), Cond.methodLink RX2 33 yX2_has, Cond.methodLink RX5 139 yX2_parentOf, Cond.instanceMethod yX2_parentOf, Cond.selects RX2 yX2_parentOf yX2_parentOf, Cond.code yX2_parentOf cX2_parentOf 2 (some .int), Cond.fieldLink RX2 9 "PacketTraceback$Network" "parents" "[I", Cond.methodLink RX5 160 yX3_parentOf, Cond.instanceMethod yX3_parentOf]
def wsX5_nodeOf_r3 : List Cond := [Cond.selects RX3 yX3_parentOf yX3_parentOf, Cond.code yX3_parentOf cX3_parentOf 2 (some .int), Cond.fieldLink RX3 18 "PacketTraceback$NodeTable" "parents" "[I"]
def wsX5_nodeOf : List Cond := .code yX5_nodeOf cX5_nodeOf 3 (some .int) :: ((wsX5_nodeOf_r1 ++ (wsX5_nodeOf_r2 ++ wsX5_nodeOf_r3)) ++ wsX50 ++ wsX20 ++ wsX30)
def wsX6_init : List Cond := .code yX6_init cX6_init 1 none :: ([.methodLink RX6 1 objectInit, .instanceMethod objectInit, .code objectInit ⟨#[0xb1]⟩ 1 none, .arrayClass .int, .fieldLink RX6 7 "PacketTracebackModel" "parentOf" "[I", .fieldLink RX6 13 "PacketTracebackModel" "addressOf" "[I", .fieldLink RX6 16 "PacketTracebackModel" "depthOf" "[I", .fieldLink RX6 19 "PacketTracebackModel" "marks" "[I", .fieldLink RX6 22 "PacketTracebackModel" "missing" "[I", .fieldLink RX6 25 "PacketTracebackModel" "nodeAddresses" "[I", .fieldLink RX6 28 "PacketTracebackModel" "nodeDistances" "[I", .fieldLink RX6 31 "PacketTracebackModel" "nodeParents" "[I", .fieldLink RX6 34 "PacketTracebackModel" "foundAddress" "[I", .fieldLink RX6 37 "PacketTracebackModel" "foundDistance" "[I", .fieldLink RX6 40 "PacketTracebackModel" "foundParent" "[I", .fieldLink RX6 43 "PacketTracebackModel" "wordAt" "[I", .fieldLink RX6 46 "PacketTracebackModel" "percent" "I", .fieldLink RX6 50 "PacketTracebackModel" "random" "I"] ++ wsX60)
def wsX6_within : List Cond := .code yX6_within cX6_within 3 (some .boolean) :: ([])
def wsX6_isRouter : List Cond := .code yX6_isRouter cX6_isRouter 2 (some .boolean) :: ([.fieldLink RX6 53 "PacketTracebackModel" "routers" "I", .methodLink RX6 56 yX6_within, .static yX6_within, .initialized RX6, .code yX6_within cX6_within 3 (some .boolean)] ++ wsX60)
def wsX6_isAddress : List Cond := .code yX6_isAddress cX6_isAddress 1 (some .boolean) :: ([.methodLink RX6 56 yX6_within, .static yX6_within, .initialized RX6, .code yX6_within cX6_within 3 (some .boolean)])
def wsX6_isUsed : List Cond := .code yX6_isUsed cX6_isUsed 3 (some .boolean) :: ([.fieldLink RX6 53 "PacketTracebackModel" "routers" "I", .fieldLink RX6 13 "PacketTracebackModel" "addressOf" "[I"] ++ wsX60)
def wsX6_addRouter : List Cond := .code yX6_addRouter cX6_addRouter 3 (some .int) :: ([.fieldLink RX6 53 "PacketTracebackModel" "routers" "I", .fieldLink RX6 7 "PacketTracebackModel" "parentOf" "[I", .fieldLink RX6 16 "PacketTracebackModel" "depthOf" "[I", .fieldLink RX6 13 "PacketTracebackModel" "addressOf" "[I", .methodLink RX6 60 yX6_isRouter, .instanceMethod yX6_isRouter, .selects RX6 yX6_isRouter yX6_isRouter, .initialized RX6, .code yX6_isRouter cX6_isRouter 2 (some .boolean), .methodLink RX6 56 yX6_within, .static yX6_within, .code yX6_within cX6_within 3 (some .boolean), .methodLink RX6 64 yX6_isAddress, .static yX6_isAddress, .code yX6_isAddress cX6_isAddress 1 (some .boolean), .methodLink RX6 67 yX6_isUsed, .instanceMethod yX6_isUsed, .selects RX6 yX6_isUsed yX6_isUsed, .code yX6_isUsed cX6_isUsed 3 (some .boolean)] ++ wsX60)
def wsX6_routerCount : List Cond := .code yX6_routerCount cX6_routerCount 1 (some .int) :: ([.fieldLink RX6 53 "PacketTracebackModel" "routers" "I"] ++ wsX60)
def wsX6_depth : List Cond := .code yX6_depth cX6_depth 2 (some .int) :: ([.fieldLink RX6 16 "PacketTracebackModel" "depthOf" "[I", .methodLink RX6 60 yX6_isRouter, .instanceMethod yX6_isRouter, .selects RX6 yX6_isRouter yX6_isRouter, .initialized RX6, .code yX6_isRouter cX6_isRouter 2 (some .boolean), .fieldLink RX6 53 "PacketTracebackModel" "routers" "I", .methodLink RX6 56 yX6_within, .static yX6_within, .code yX6_within cX6_within 3 (some .boolean)] ++ wsX60)
def wsX6_digestOf : List Cond := .code yX6_digestOf cX6_digestOf 1 (some .int) :: ([])
def wsX6_wordOf : List Cond := .code yX6_wordOf cX6_wordOf 1 (some .int) :: ([.methodLink RX6 70 yX6_digestOf, .static yX6_digestOf, .initialized RX6, .code yX6_digestOf cX6_digestOf 1 (some .int)])
def wsX6_fragmentOf : List Cond := .code yX6_fragmentOf cX6_fragmentOf 2 (some .int) :: ([])
def wsX6_digest : List Cond := .code yX6_digest cX6_digest 2 (some .int) :: ([.methodLink RX6 64 yX6_isAddress, .static yX6_isAddress, .initialized RX6, .code yX6_isAddress cX6_isAddress 1 (some .boolean), .methodLink RX6 56 yX6_within, .static yX6_within, .code yX6_within cX6_within 3 (some .boolean), .methodLink RX6 70 yX6_digestOf, .static yX6_digestOf, .code yX6_digestOf cX6_digestOf 1 (some .int)])
def wsX6_fragment : List Cond := .code yX6_fragment cX6_fragment 3 (some .int) :: ([.methodLink RX6 64 yX6_isAddress, .static yX6_isAddress, .initialized RX6, .code yX6_isAddress cX6_isAddress 1 (some .boolean), .methodLink RX6 56 yX6_within, .static yX6_within, .code yX6_within cX6_within 3 (some .boolean), .methodLink RX6 74 yX6_wordOf, .static yX6_wordOf, .code yX6_wordOf cX6_wordOf 1 (some .int), .methodLink RX6 70 yX6_digestOf, .static yX6_digestOf, .code yX6_digestOf cX6_digestOf 1 (some .int), .methodLink RX6 77 yX6_fragmentOf, .static yX6_fragmentOf, .code yX6_fragmentOf cX6_fragmentOf 2 (some .int)])
def wsX6_setMarkingPercent : List Cond := .code yX6_setMarkingPercent cX6_setMarkingPercent 3 (some .int) :: ([.fieldLink RX6 46 "PacketTracebackModel" "percent" "I", .methodLink RX6 56 yX6_within, .static yX6_within, .initialized RX6, .code yX6_within cX6_within 3 (some .boolean)] ++ wsX60)
def wsX6_setSeed : List Cond := .code yX6_setSeed cX6_setSeed 3 (some .int) :: ([.fieldLink RX6 50 "PacketTracebackModel" "random" "I"] ++ wsX60)
def wsX6_draws : List Cond := .code yX6_draws cX6_draws 1 (some .int) :: ([.fieldLink RX6 50 "PacketTracebackModel" "random" "I", .constant RX6 81 (1103515245)] ++ wsX60)
def wsX6_process : List Cond := .code yX6_process cX6_process 3 none :: ([.fieldLink RX6 13 "PacketTracebackModel" "addressOf" "[I", .fieldLink RX6 46 "PacketTracebackModel" "percent" "I", .fieldLink RX6 86 "PacketTracebackModel" "offset" "I", .fieldLink RX6 89 "PacketTracebackModel" "distance" "I", .fieldLink RX6 92 "PacketTracebackModel" "value" "I", .fieldLink RX6 95 "PacketTracebackModel" "isMade" "Z", .methodLink RX6 74 yX6_wordOf, .static yX6_wordOf, .initialized RX6, .code yX6_wordOf cX6_wordOf 1 (some .int), .methodLink RX6 70 yX6_digestOf, .static yX6_digestOf, .code yX6_digestOf cX6_digestOf 1 (some .int), .methodLink RX6 82 yX6_draws, .instanceMethod yX6_draws, .selects RX6 yX6_draws yX6_draws, .code yX6_draws cX6_draws 1 (some .int), .fieldLink RX6 50 "PacketTracebackModel" "random" "I", .constant RX6 81 (1103515245), .methodLink RX6 77 yX6_fragmentOf, .static yX6_fragmentOf, .code yX6_fragmentOf cX6_fragmentOf 2 (some .int)] ++ wsX60)
def wsX6_travels_r1 : List Cond := [Cond.fieldLink RX6 7 "PacketTracebackModel" "parentOf" "[I", Cond.methodLink RX6 99 yX6_process, Cond.instanceMethod yX6_process, Cond.selects RX6 yX6_process yX6_process, Cond.initialized RX6, Cond.code yX6_process cX6_process 3 none, Cond.fieldLink RX6 13 "PacketTracebackModel" "addressOf" "[I", Cond.fieldLink RX6 46 "PacketTracebackModel" "percent" "I", Cond.fieldLink RX6 86 "PacketTracebackModel" "offset" "I", Cond.fieldLink RX6 89 "PacketTracebackModel" "distance" "I", Cond.fieldLink RX6 92 "PacketTracebackModel" "value" "I", Cond.fieldLink RX6 95 "PacketTracebackModel" "isMade" "Z", Cond.methodLink RX6 74 yX6_wordOf, Cond.static yX6_wordOf, Cond.code yX6_wordOf cX6_wordOf 1 (some .int), Cond.methodLink RX6 70 yX6_digestOf, Cond.static yX6_digestOf, Cond.code yX6_digestOf cX6_digestOf 1 (some .int), Cond.methodLink RX6 82 yX6_draws, Cond.instanceMethod yX6_draws, Cond.selects RX6 yX6_draws yX6_draws, Cond.code yX6_draws cX6_draws 1 (some .int), Cond.fieldLink RX6 50 "PacketTracebackModel" "random" "I", Cond.constant RX6 81 (1103515245)]
def wsX6_travels_r2 : List Cond := [Cond.methodLink RX6 77 yX6_fragmentOf, Cond.static yX6_fragmentOf, Cond.code yX6_fragmentOf cX6_fragmentOf 2 (some .int)]
def wsX6_travels : List Cond := .code yX6_travels cX6_travels 3 none :: ((wsX6_travels_r1 ++ wsX6_travels_r2) ++ wsX60)
def wsX6_placeOf : List Cond := .code yX6_placeOf cX6_placeOf 3 (some .int) :: ([])
def wsX6_records : List Cond := .code yX6_records cX6_records 1 none :: ([.fieldLink RX6 103 "PacketTracebackModel" "received" "I", .fieldLink RX6 89 "PacketTracebackModel" "distance" "I", .fieldLink RX6 106 "PacketTracebackModel" "unmarked" "I", .fieldLink RX6 19 "PacketTracebackModel" "marks" "[I", .fieldLink RX6 86 "PacketTracebackModel" "offset" "I", .fieldLink RX6 92 "PacketTracebackModel" "value" "I", .methodLink RX6 109 yX6_placeOf, .static yX6_placeOf, .initialized RX6, .code yX6_placeOf cX6_placeOf 3 (some .int)] ++ wsX60)
def wsX6_clearMarks : List Cond := .code yX6_clearMarks cX6_clearMarks 3 (some .int) :: ([.fieldLink RX6 103 "PacketTracebackModel" "received" "I", .fieldLink RX6 19 "PacketTracebackModel" "marks" "[I", .fieldLink RX6 106 "PacketTracebackModel" "unmarked" "I"] ++ wsX60)
def wsX6_sendPackets_r1 : List Cond := [Cond.fieldLink RX6 89 "PacketTracebackModel" "distance" "I", Cond.methodLink RX6 60 yX6_isRouter, Cond.instanceMethod yX6_isRouter, Cond.selects RX6 yX6_isRouter yX6_isRouter, Cond.initialized RX6, Cond.code yX6_isRouter cX6_isRouter 2 (some .boolean), Cond.fieldLink RX6 53 "PacketTracebackModel" "routers" "I", Cond.methodLink RX6 56 yX6_within, Cond.static yX6_within, Cond.code yX6_within cX6_within 3 (some .boolean), Cond.methodLink RX6 113 yX6_travels, Cond.instanceMethod yX6_travels, Cond.selects RX6 yX6_travels yX6_travels, Cond.code yX6_travels cX6_travels 3 none, Cond.fieldLink RX6 7 "PacketTracebackModel" "parentOf" "[I", Cond.methodLink RX6 99 yX6_process, Cond.instanceMethod yX6_process, Cond.selects RX6 yX6_process yX6_process, Cond.code yX6_process cX6_process 3 none, Cond.fieldLink RX6 13 "PacketTracebackModel" "addressOf" "[I", Cond.fieldLink RX6 46 "PacketTracebackModel" "percent" "I", Cond.fieldLink RX6 86 "PacketTracebackModel" "offset" "I", Cond.fieldLink RX6 92 "PacketTracebackModel" "value" "I", Cond.fieldLink RX6 95 "PacketTracebackModel" "isMade" "Z"]
def wsX6_sendPackets_r2 : List Cond := [Cond.methodLink RX6 74 yX6_wordOf, Cond.static yX6_wordOf, Cond.code yX6_wordOf cX6_wordOf 1 (some .int), Cond.methodLink RX6 70 yX6_digestOf, Cond.static yX6_digestOf, Cond.code yX6_digestOf cX6_digestOf 1 (some .int), Cond.methodLink RX6 82 yX6_draws, Cond.instanceMethod yX6_draws, Cond.selects RX6 yX6_draws yX6_draws, Cond.code yX6_draws cX6_draws 1 (some .int), Cond.fieldLink RX6 50 "PacketTracebackModel" "random" "I", Cond.constant RX6 81 (1103515245), Cond.methodLink RX6 77 yX6_fragmentOf, Cond.static yX6_fragmentOf, Cond.code yX6_fragmentOf cX6_fragmentOf 2 (some .int), Cond.methodLink RX6 116 yX6_records, Cond.instanceMethod yX6_records, Cond.selects RX6 yX6_records yX6_records, Cond.code yX6_records cX6_records 1 none, Cond.fieldLink RX6 103 "PacketTracebackModel" "received" "I", Cond.fieldLink RX6 106 "PacketTracebackModel" "unmarked" "I", Cond.fieldLink RX6 19 "PacketTracebackModel" "marks" "[I", Cond.methodLink RX6 109 yX6_placeOf, Cond.static yX6_placeOf]
def wsX6_sendPackets_r3 : List Cond := [Cond.code yX6_placeOf cX6_placeOf 3 (some .int)]
def wsX6_sendPackets : List Cond := .code yX6_sendPackets cX6_sendPackets 5 (some .int) :: ((wsX6_sendPackets_r1 ++ (wsX6_sendPackets_r2 ++ wsX6_sendPackets_r3)) ++ wsX60)
def wsX6_isMark : List Cond := .code yX6_isMark cX6_isMark 3 (some .boolean) :: ([.methodLink RX6 56 yX6_within, .static yX6_within, .initialized RX6, .code yX6_within cX6_within 3 (some .boolean)])
def wsX6_sendForged_r1 : List Cond := [Cond.fieldLink RX6 89 "PacketTracebackModel" "distance" "I", Cond.fieldLink RX6 86 "PacketTracebackModel" "offset" "I", Cond.fieldLink RX6 92 "PacketTracebackModel" "value" "I", Cond.fieldLink RX6 95 "PacketTracebackModel" "isMade" "Z", Cond.methodLink RX6 60 yX6_isRouter, Cond.instanceMethod yX6_isRouter, Cond.selects RX6 yX6_isRouter yX6_isRouter, Cond.initialized RX6, Cond.code yX6_isRouter cX6_isRouter 2 (some .boolean), Cond.fieldLink RX6 53 "PacketTracebackModel" "routers" "I", Cond.methodLink RX6 56 yX6_within, Cond.static yX6_within, Cond.code yX6_within cX6_within 3 (some .boolean), Cond.methodLink RX6 119 yX6_isMark, Cond.static yX6_isMark, Cond.code yX6_isMark cX6_isMark 3 (some .boolean), Cond.methodLink RX6 113 yX6_travels, Cond.instanceMethod yX6_travels, Cond.selects RX6 yX6_travels yX6_travels, Cond.code yX6_travels cX6_travels 3 none, Cond.fieldLink RX6 7 "PacketTracebackModel" "parentOf" "[I", Cond.methodLink RX6 99 yX6_process, Cond.instanceMethod yX6_process, Cond.selects RX6 yX6_process yX6_process]
def wsX6_sendForged_r2 : List Cond := [Cond.code yX6_process cX6_process 3 none, Cond.fieldLink RX6 13 "PacketTracebackModel" "addressOf" "[I", Cond.fieldLink RX6 46 "PacketTracebackModel" "percent" "I", Cond.methodLink RX6 74 yX6_wordOf, Cond.static yX6_wordOf, Cond.code yX6_wordOf cX6_wordOf 1 (some .int), Cond.methodLink RX6 70 yX6_digestOf, Cond.static yX6_digestOf, Cond.code yX6_digestOf cX6_digestOf 1 (some .int), Cond.methodLink RX6 82 yX6_draws, Cond.instanceMethod yX6_draws, Cond.selects RX6 yX6_draws yX6_draws, Cond.code yX6_draws cX6_draws 1 (some .int), Cond.fieldLink RX6 50 "PacketTracebackModel" "random" "I", Cond.constant RX6 81 (1103515245), Cond.methodLink RX6 77 yX6_fragmentOf, Cond.static yX6_fragmentOf, Cond.code yX6_fragmentOf cX6_fragmentOf 2 (some .int), Cond.methodLink RX6 116 yX6_records, Cond.instanceMethod yX6_records, Cond.selects RX6 yX6_records yX6_records, Cond.code yX6_records cX6_records 1 none, Cond.fieldLink RX6 103 "PacketTracebackModel" "received" "I", Cond.fieldLink RX6 106 "PacketTracebackModel" "unmarked" "I"]
def wsX6_sendForged_r3 : List Cond := [Cond.fieldLink RX6 19 "PacketTracebackModel" "marks" "[I", Cond.methodLink RX6 109 yX6_placeOf, Cond.static yX6_placeOf, Cond.code yX6_placeOf cX6_placeOf 3 (some .int)]
def wsX6_sendForged : List Cond := .code yX6_sendForged cX6_sendForged 8 (some .int) :: ((wsX6_sendForged_r1 ++ (wsX6_sendForged_r2 ++ wsX6_sendForged_r3)) ++ wsX60)
def wsX6_packetsAt : List Cond := .code yX6_packetsAt cX6_packetsAt 4 (some .int) :: ([.fieldLink RX6 19 "PacketTracebackModel" "marks" "[I"] ++ wsX60)
def wsX6_packetsAtDistance : List Cond := .code yX6_packetsAtDistance cX6_packetsAtDistance 2 (some .int) :: ([.methodLink RX6 56 yX6_within, .static yX6_within, .initialized RX6, .code yX6_within cX6_within 3 (some .boolean), .methodLink RX6 122 yX6_packetsAt, .instanceMethod yX6_packetsAt, .selects RX6 yX6_packetsAt yX6_packetsAt, .code yX6_packetsAt cX6_packetsAt 4 (some .int), .fieldLink RX6 19 "PacketTracebackModel" "marks" "[I"] ++ wsX60)
def wsX6_unmarkedCount : List Cond := .code yX6_unmarkedCount cX6_unmarkedCount 1 (some .int) :: ([.fieldLink RX6 106 "PacketTracebackModel" "unmarked" "I"] ++ wsX60)
def wsX6_markCount : List Cond := .code yX6_markCount cX6_markCount 4 (some .int) :: ([.fieldLink RX6 19 "PacketTracebackModel" "marks" "[I", .methodLink RX6 119 yX6_isMark, .static yX6_isMark, .initialized RX6, .code yX6_isMark cX6_isMark 3 (some .boolean), .methodLink RX6 56 yX6_within, .static yX6_within, .code yX6_within cX6_within 3 (some .boolean), .methodLink RX6 109 yX6_placeOf, .static yX6_placeOf, .code yX6_placeOf cX6_placeOf 3 (some .int)] ++ wsX60)
def wsX6_different : List Cond := .code yX6_different cX6_different 5 (some .int) :: ([.fieldLink RX6 19 "PacketTracebackModel" "marks" "[I", .methodLink RX6 109 yX6_placeOf, .static yX6_placeOf, .initialized RX6, .code yX6_placeOf cX6_placeOf 3 (some .int)] ++ wsX60)
def wsX6_fragmentCount : List Cond := .code yX6_fragmentCount cX6_fragmentCount 3 (some .int) :: ([.methodLink RX6 119 yX6_isMark, .static yX6_isMark, .initialized RX6, .code yX6_isMark cX6_isMark 3 (some .boolean), .methodLink RX6 56 yX6_within, .static yX6_within, .code yX6_within cX6_within 3 (some .boolean), .methodLink RX6 125 yX6_different, .instanceMethod yX6_different, .selects RX6 yX6_different yX6_different, .code yX6_different cX6_different 5 (some .int), .fieldLink RX6 19 "PacketTracebackModel" "marks" "[I", .methodLink RX6 109 yX6_placeOf, .static yX6_placeOf, .code yX6_placeOf cX6_placeOf 3 (some .int)] ++ wsX60)
def wsX6_greatestDistance : List Cond := .code yX6_greatestDistance cX6_greatestDistance 2 (some .int) :: ([.methodLink RX6 122 yX6_packetsAt, .instanceMethod yX6_packetsAt, .selects RX6 yX6_packetsAt yX6_packetsAt, .initialized RX6, .code yX6_packetsAt cX6_packetsAt 4 (some .int), .fieldLink RX6 19 "PacketTracebackModel" "marks" "[I"] ++ wsX60)
def wsX6_trueFragment : List Cond := .code yX6_trueFragment cX6_trueFragment 4 (some .int) :: ([.fieldLink RX6 13 "PacketTracebackModel" "addressOf" "[I", .fieldLink RX6 7 "PacketTracebackModel" "parentOf" "[I", .methodLink RX6 74 yX6_wordOf, .static yX6_wordOf, .initialized RX6, .code yX6_wordOf cX6_wordOf 1 (some .int), .methodLink RX6 70 yX6_digestOf, .static yX6_digestOf, .code yX6_digestOf cX6_digestOf 1 (some .int), .methodLink RX6 77 yX6_fragmentOf, .static yX6_fragmentOf, .code yX6_fragmentOf cX6_fragmentOf 2 (some .int)] ++ wsX60)
def wsX6_isPathComplete_r1 : List Cond := [Cond.fieldLink RX6 19 "PacketTracebackModel" "marks" "[I", Cond.fieldLink RX6 16 "PacketTracebackModel" "depthOf" "[I", Cond.fieldLink RX6 7 "PacketTracebackModel" "parentOf" "[I", Cond.methodLink RX6 60 yX6_isRouter, Cond.instanceMethod yX6_isRouter, Cond.selects RX6 yX6_isRouter yX6_isRouter, Cond.initialized RX6, Cond.code yX6_isRouter cX6_isRouter 2 (some .boolean), Cond.fieldLink RX6 53 "PacketTracebackModel" "routers" "I", Cond.methodLink RX6 56 yX6_within, Cond.static yX6_within, Cond.code yX6_within cX6_within 3 (some .boolean), Cond.methodLink RX6 128 yX6_trueFragment, Cond.instanceMethod yX6_trueFragment, Cond.selects RX6 yX6_trueFragment yX6_trueFragment, Cond.code yX6_trueFragment cX6_trueFragment 4 (some .int), Cond.fieldLink RX6 13 "PacketTracebackModel" "addressOf" "[I", Cond.methodLink RX6 74 yX6_wordOf, Cond.static yX6_wordOf, Cond.code yX6_wordOf cX6_wordOf 1 (some .int), Cond.methodLink RX6 70 yX6_digestOf, Cond.static yX6_digestOf, Cond.code yX6_digestOf cX6_digestOf 1 (some .int), Cond.methodLink RX6 77 yX6_fragmentOf]
def wsX6_isPathComplete_r2 : List Cond := [Cond.static yX6_fragmentOf, Cond.code yX6_fragmentOf cX6_fragmentOf 2 (some .int), Cond.methodLink RX6 109 yX6_placeOf, Cond.static yX6_placeOf, Cond.code yX6_placeOf cX6_placeOf 3 (some .int)]
def wsX6_isPathComplete : List Cond := .code yX6_isPathComplete cX6_isPathComplete 4 (some .int) :: ((wsX6_isPathComplete_r1 ++ wsX6_isPathComplete_r2) ++ wsX60)
def wsX6_startsTrial : List Cond := .code yX6_startsTrial cX6_startsTrial 3 none :: ([.fieldLink RX6 22 "PacketTracebackModel" "missing" "[I", .fieldLink RX6 16 "PacketTracebackModel" "depthOf" "[I"] ++ wsX60)
def wsX6_isTrialComplete : List Cond := .code yX6_isTrialComplete cX6_isTrialComplete 2 (some .boolean) :: ([.fieldLink RX6 22 "PacketTracebackModel" "missing" "[I"] ++ wsX60)
def wsX6_packetsNeeded_r1 : List Cond := [Cond.fieldLink RX6 50 "PacketTracebackModel" "random" "I", Cond.fieldLink RX6 89 "PacketTracebackModel" "distance" "I", Cond.fieldLink RX6 22 "PacketTracebackModel" "missing" "[I", Cond.fieldLink RX6 86 "PacketTracebackModel" "offset" "I", Cond.methodLink RX6 60 yX6_isRouter, Cond.instanceMethod yX6_isRouter, Cond.selects RX6 yX6_isRouter yX6_isRouter, Cond.initialized RX6, Cond.code yX6_isRouter cX6_isRouter 2 (some .boolean), Cond.fieldLink RX6 53 "PacketTracebackModel" "routers" "I", Cond.methodLink RX6 56 yX6_within, Cond.static yX6_within, Cond.code yX6_within cX6_within 3 (some .boolean), Cond.methodLink RX6 131 yX6_startsTrial, Cond.instanceMethod yX6_startsTrial, Cond.selects RX6 yX6_startsTrial yX6_startsTrial, Cond.code yX6_startsTrial cX6_startsTrial 3 none, Cond.fieldLink RX6 16 "PacketTracebackModel" "depthOf" "[I", Cond.methodLink RX6 134 yX6_isTrialComplete, Cond.instanceMethod yX6_isTrialComplete, Cond.selects RX6 yX6_isTrialComplete yX6_isTrialComplete, Cond.code yX6_isTrialComplete cX6_isTrialComplete 2 (some .boolean), Cond.methodLink RX6 113 yX6_travels, Cond.instanceMethod yX6_travels]
def wsX6_packetsNeeded_r2 : List Cond := [Cond.selects RX6 yX6_travels yX6_travels, Cond.code yX6_travels cX6_travels 3 none, Cond.fieldLink RX6 7 "PacketTracebackModel" "parentOf" "[I", Cond.methodLink RX6 99 yX6_process, Cond.instanceMethod yX6_process, Cond.selects RX6 yX6_process yX6_process, Cond.code yX6_process cX6_process 3 none, Cond.fieldLink RX6 13 "PacketTracebackModel" "addressOf" "[I", Cond.fieldLink RX6 46 "PacketTracebackModel" "percent" "I", Cond.fieldLink RX6 92 "PacketTracebackModel" "value" "I", Cond.fieldLink RX6 95 "PacketTracebackModel" "isMade" "Z", Cond.methodLink RX6 74 yX6_wordOf, Cond.static yX6_wordOf, Cond.code yX6_wordOf cX6_wordOf 1 (some .int), Cond.methodLink RX6 70 yX6_digestOf, Cond.static yX6_digestOf, Cond.code yX6_digestOf cX6_digestOf 1 (some .int), Cond.methodLink RX6 82 yX6_draws, Cond.instanceMethod yX6_draws, Cond.selects RX6 yX6_draws yX6_draws, Cond.code yX6_draws cX6_draws 1 (some .int), Cond.constant RX6 81 (1103515245), Cond.methodLink RX6 77 yX6_fragmentOf, Cond.static yX6_fragmentOf]
def wsX6_packetsNeeded_r3 : List Cond := [Cond.code yX6_fragmentOf cX6_fragmentOf 2 (some .int)]
def wsX6_packetsNeeded : List Cond := .code yX6_packetsNeeded cX6_packetsNeeded 5 (some .int) :: ((wsX6_packetsNeeded_r1 ++ (wsX6_packetsNeeded_r2 ++ wsX6_packetsNeeded_r3)) ++ wsX60)
def wsX6_combinations : List Cond := .code yX6_combinations cX6_combinations 4 (some .int) :: ([.methodLink RX6 125 yX6_different, .instanceMethod yX6_different, .selects RX6 yX6_different yX6_different, .initialized RX6, .code yX6_different cX6_different 5 (some .int), .fieldLink RX6 19 "PacketTracebackModel" "marks" "[I", .methodLink RX6 109 yX6_placeOf, .static yX6_placeOf, .code yX6_placeOf cX6_placeOf 3 (some .int)] ++ wsX60)
def wsX6_fragmentAt : List Cond := .code yX6_fragmentAt cX6_fragmentAt 6 (some .int) :: ([.fieldLink RX6 19 "PacketTracebackModel" "marks" "[I", .methodLink RX6 109 yX6_placeOf, .static yX6_placeOf, .initialized RX6, .code yX6_placeOf cX6_placeOf 3 (some .int)] ++ wsX60)
def wsX6_findWords : List Cond := .code yX6_findWords cX6_findWords 7 none :: ([.fieldLink RX6 141 "PacketTracebackModel" "words" "I", .fieldLink RX6 43 "PacketTracebackModel" "wordAt" "[I", .methodLink RX6 138 yX6_combinations, .instanceMethod yX6_combinations, .selects RX6 yX6_combinations yX6_combinations, .initialized RX6, .code yX6_combinations cX6_combinations 4 (some .int), .methodLink RX6 125 yX6_different, .instanceMethod yX6_different, .selects RX6 yX6_different yX6_different, .code yX6_different cX6_different 5 (some .int), .fieldLink RX6 19 "PacketTracebackModel" "marks" "[I", .methodLink RX6 109 yX6_placeOf, .static yX6_placeOf, .code yX6_placeOf cX6_placeOf 3 (some .int), .methodLink RX6 144 yX6_fragmentAt, .instanceMethod yX6_fragmentAt, .selects RX6 yX6_fragmentAt yX6_fragmentAt, .code yX6_fragmentAt cX6_fragmentAt 6 (some .int)] ++ wsX60)
def wsX6_isWord : List Cond := .code yX6_isWord cX6_isWord 1 (some .boolean) :: ([.methodLink RX6 70 yX6_digestOf, .static yX6_digestOf, .initialized RX6, .code yX6_digestOf cX6_digestOf 1 (some .int)])
def wsX6_adds : List Cond := .code yX6_adds cX6_adds 5 (some .boolean) :: ([.fieldLink RX6 147 "PacketTracebackModel" "found" "I", .fieldLink RX6 37 "PacketTracebackModel" "foundDistance" "[I", .fieldLink RX6 40 "PacketTracebackModel" "foundParent" "[I", .fieldLink RX6 34 "PacketTracebackModel" "foundAddress" "[I"] ++ wsX60)
def wsX6_findNodes : List Cond := .code yX6_findNodes cX6_findNodes 6 (some .boolean) :: ([.fieldLink RX6 34 "PacketTracebackModel" "foundAddress" "[I", .fieldLink RX6 141 "PacketTracebackModel" "words" "I", .fieldLink RX6 43 "PacketTracebackModel" "wordAt" "[I", .methodLink RX6 74 yX6_wordOf, .static yX6_wordOf, .initialized RX6, .code yX6_wordOf cX6_wordOf 1 (some .int), .methodLink RX6 70 yX6_digestOf, .static yX6_digestOf, .code yX6_digestOf cX6_digestOf 1 (some .int), .methodLink RX6 150 yX6_isWord, .static yX6_isWord, .code yX6_isWord cX6_isWord 1 (some .boolean), .methodLink RX6 153 yX6_adds, .instanceMethod yX6_adds, .selects RX6 yX6_adds yX6_adds, .code yX6_adds cX6_adds 5 (some .boolean), .fieldLink RX6 147 "PacketTracebackModel" "found" "I", .fieldLink RX6 37 "PacketTracebackModel" "foundDistance" "[I", .fieldLink RX6 40 "PacketTracebackModel" "foundParent" "[I"] ++ wsX60)
def wsX6_findDistance_r1 : List Cond := [Cond.fieldLink RX6 147 "PacketTracebackModel" "found" "I", Cond.fieldLink RX6 37 "PacketTracebackModel" "foundDistance" "[I", Cond.methodLink RX6 138 yX6_combinations, Cond.instanceMethod yX6_combinations, Cond.selects RX6 yX6_combinations yX6_combinations, Cond.initialized RX6, Cond.code yX6_combinations cX6_combinations 4 (some .int), Cond.methodLink RX6 125 yX6_different, Cond.instanceMethod yX6_different, Cond.selects RX6 yX6_different yX6_different, Cond.code yX6_different cX6_different 5 (some .int), Cond.fieldLink RX6 19 "PacketTracebackModel" "marks" "[I", Cond.methodLink RX6 109 yX6_placeOf, Cond.static yX6_placeOf, Cond.code yX6_placeOf cX6_placeOf 3 (some .int), Cond.methodLink RX6 156 yX6_findWords, Cond.instanceMethod yX6_findWords, Cond.selects RX6 yX6_findWords yX6_findWords, Cond.code yX6_findWords cX6_findWords 7 none, Cond.fieldLink RX6 141 "PacketTracebackModel" "words" "I", Cond.fieldLink RX6 43 "PacketTracebackModel" "wordAt" "[I", Cond.methodLink RX6 144 yX6_fragmentAt, Cond.instanceMethod yX6_fragmentAt, Cond.selects RX6 yX6_fragmentAt yX6_fragmentAt]
def wsX6_findDistance_r2 : List Cond := [Cond.code yX6_fragmentAt cX6_fragmentAt 6 (some .int), Cond.methodLink RX6 159 yX6_findNodes, Cond.instanceMethod yX6_findNodes, Cond.selects RX6 yX6_findNodes yX6_findNodes, Cond.code yX6_findNodes cX6_findNodes 6 (some .boolean), Cond.fieldLink RX6 34 "PacketTracebackModel" "foundAddress" "[I", Cond.methodLink RX6 74 yX6_wordOf, Cond.static yX6_wordOf, Cond.code yX6_wordOf cX6_wordOf 1 (some .int), Cond.methodLink RX6 70 yX6_digestOf, Cond.static yX6_digestOf, Cond.code yX6_digestOf cX6_digestOf 1 (some .int), Cond.methodLink RX6 150 yX6_isWord, Cond.static yX6_isWord, Cond.code yX6_isWord cX6_isWord 1 (some .boolean), Cond.methodLink RX6 153 yX6_adds, Cond.instanceMethod yX6_adds, Cond.selects RX6 yX6_adds yX6_adds, Cond.code yX6_adds cX6_adds 5 (some .boolean), Cond.fieldLink RX6 40 "PacketTracebackModel" "foundParent" "[I"]
def wsX6_findDistance : List Cond := .code yX6_findDistance cX6_findDistance 4 (some .boolean) :: ((wsX6_findDistance_r1 ++ wsX6_findDistance_r2) ++ wsX60)
def wsX6_reconstruct_r1 : List Cond := [Cond.fieldLink RX6 147 "PacketTracebackModel" "found" "I", Cond.fieldLink RX6 166 "PacketTracebackModel" "nodes" "I", Cond.fieldLink RX6 25 "PacketTracebackModel" "nodeAddresses" "[I", Cond.fieldLink RX6 34 "PacketTracebackModel" "foundAddress" "[I", Cond.fieldLink RX6 28 "PacketTracebackModel" "nodeDistances" "[I", Cond.fieldLink RX6 37 "PacketTracebackModel" "foundDistance" "[I", Cond.fieldLink RX6 31 "PacketTracebackModel" "nodeParents" "[I", Cond.fieldLink RX6 40 "PacketTracebackModel" "foundParent" "[I", Cond.methodLink RX6 163 yX6_findDistance, Cond.instanceMethod yX6_findDistance, Cond.selects RX6 yX6_findDistance yX6_findDistance, Cond.initialized RX6, Cond.code yX6_findDistance cX6_findDistance 4 (some .boolean), Cond.methodLink RX6 138 yX6_combinations, Cond.instanceMethod yX6_combinations, Cond.selects RX6 yX6_combinations yX6_combinations, Cond.code yX6_combinations cX6_combinations 4 (some .int), Cond.methodLink RX6 125 yX6_different, Cond.instanceMethod yX6_different, Cond.selects RX6 yX6_different yX6_different, Cond.code yX6_different cX6_different 5 (some .int), Cond.fieldLink RX6 19 "PacketTracebackModel" "marks" "[I", Cond.methodLink RX6 109 yX6_placeOf, Cond.static yX6_placeOf]
def wsX6_reconstruct_r2 : List Cond := [Cond.code yX6_placeOf cX6_placeOf 3 (some .int), Cond.methodLink RX6 156 yX6_findWords, Cond.instanceMethod yX6_findWords, Cond.selects RX6 yX6_findWords yX6_findWords, Cond.code yX6_findWords cX6_findWords 7 none, Cond.fieldLink RX6 141 "PacketTracebackModel" "words" "I", Cond.fieldLink RX6 43 "PacketTracebackModel" "wordAt" "[I", Cond.methodLink RX6 144 yX6_fragmentAt, Cond.instanceMethod yX6_fragmentAt, Cond.selects RX6 yX6_fragmentAt yX6_fragmentAt, Cond.code yX6_fragmentAt cX6_fragmentAt 6 (some .int), Cond.methodLink RX6 159 yX6_findNodes, Cond.instanceMethod yX6_findNodes, Cond.selects RX6 yX6_findNodes yX6_findNodes, Cond.code yX6_findNodes cX6_findNodes 6 (some .boolean), Cond.methodLink RX6 74 yX6_wordOf, Cond.static yX6_wordOf, Cond.code yX6_wordOf cX6_wordOf 1 (some .int), Cond.methodLink RX6 70 yX6_digestOf, Cond.static yX6_digestOf, Cond.code yX6_digestOf cX6_digestOf 1 (some .int), Cond.methodLink RX6 150 yX6_isWord, Cond.static yX6_isWord, Cond.code yX6_isWord cX6_isWord 1 (some .boolean)]
def wsX6_reconstruct_r3 : List Cond := [Cond.methodLink RX6 153 yX6_adds, Cond.instanceMethod yX6_adds, Cond.selects RX6 yX6_adds yX6_adds, Cond.code yX6_adds cX6_adds 5 (some .boolean)]
def wsX6_reconstruct : List Cond := .code yX6_reconstruct cX6_reconstruct 3 (some .int) :: ((wsX6_reconstruct_r1 ++ (wsX6_reconstruct_r2 ++ wsX6_reconstruct_r3)) ++ wsX60)
def wsX6_nodeCount : List Cond := .code yX6_nodeCount cX6_nodeCount 1 (some .int) :: ([.fieldLink RX6 166 "PacketTracebackModel" "nodes" "I"] ++ wsX60)
def wsX6_isNode : List Cond := .code yX6_isNode cX6_isNode 2 (some .boolean) :: ([.fieldLink RX6 166 "PacketTracebackModel" "nodes" "I", .methodLink RX6 56 yX6_within, .static yX6_within, .initialized RX6, .code yX6_within cX6_within 3 (some .boolean)] ++ wsX60)
def wsX6_nodeAddress : List Cond := .code yX6_nodeAddress cX6_nodeAddress 2 (some .int) :: ([.fieldLink RX6 25 "PacketTracebackModel" "nodeAddresses" "[I", .methodLink RX6 169 yX6_isNode, .instanceMethod yX6_isNode, .selects RX6 yX6_isNode yX6_isNode, .initialized RX6, .code yX6_isNode cX6_isNode 2 (some .boolean), .fieldLink RX6 166 "PacketTracebackModel" "nodes" "I", .methodLink RX6 56 yX6_within, .static yX6_within, .code yX6_within cX6_within 3 (some .boolean)] ++ wsX60)
def wsX6_nodeDistance : List Cond := .code yX6_nodeDistance cX6_nodeDistance 2 (some .int) :: ([.fieldLink RX6 28 "PacketTracebackModel" "nodeDistances" "[I", .methodLink RX6 169 yX6_isNode, .instanceMethod yX6_isNode, .selects RX6 yX6_isNode yX6_isNode, .initialized RX6, .code yX6_isNode cX6_isNode 2 (some .boolean), .fieldLink RX6 166 "PacketTracebackModel" "nodes" "I", .methodLink RX6 56 yX6_within, .static yX6_within, .code yX6_within cX6_within 3 (some .boolean)] ++ wsX60)
def wsX6_nodeParent : List Cond := .code yX6_nodeParent cX6_nodeParent 2 (some .int) :: ([.fieldLink RX6 31 "PacketTracebackModel" "nodeParents" "[I", .methodLink RX6 169 yX6_isNode, .instanceMethod yX6_isNode, .selects RX6 yX6_isNode yX6_isNode, .initialized RX6, .code yX6_isNode cX6_isNode 2 (some .boolean), .fieldLink RX6 166 "PacketTracebackModel" "nodes" "I", .methodLink RX6 56 yX6_within, .static yX6_within, .code yX6_within cX6_within 3 (some .boolean)] ++ wsX60)
def wsX6_routerWith : List Cond := .code yX6_routerWith cX6_routerWith 3 (some .int) :: ([.fieldLink RX6 53 "PacketTracebackModel" "routers" "I", .fieldLink RX6 13 "PacketTracebackModel" "addressOf" "[I"] ++ wsX60)
def wsX6_routerOf : List Cond := .code yX6_routerOf cX6_routerOf 5 (some .int) :: ([.fieldLink RX6 25 "PacketTracebackModel" "nodeAddresses" "[I", .fieldLink RX6 13 "PacketTracebackModel" "addressOf" "[I", .fieldLink RX6 7 "PacketTracebackModel" "parentOf" "[I", .fieldLink RX6 31 "PacketTracebackModel" "nodeParents" "[I", .methodLink RX6 172 yX6_routerWith, .instanceMethod yX6_routerWith, .selects RX6 yX6_routerWith yX6_routerWith, .initialized RX6, .code yX6_routerWith cX6_routerWith 3 (some .int), .fieldLink RX6 53 "PacketTracebackModel" "routers" "I"] ++ wsX60)
def wsX6_nodeRouter : List Cond := .code yX6_nodeRouter cX6_nodeRouter 2 (some .int) :: ([.methodLink RX6 169 yX6_isNode, .instanceMethod yX6_isNode, .selects RX6 yX6_isNode yX6_isNode, .initialized RX6, .code yX6_isNode cX6_isNode 2 (some .boolean), .fieldLink RX6 166 "PacketTracebackModel" "nodes" "I", .methodLink RX6 56 yX6_within, .static yX6_within, .code yX6_within cX6_within 3 (some .boolean), .methodLink RX6 175 yX6_routerOf, .instanceMethod yX6_routerOf, .selects RX6 yX6_routerOf yX6_routerOf, .code yX6_routerOf cX6_routerOf 5 (some .int), .fieldLink RX6 25 "PacketTracebackModel" "nodeAddresses" "[I", .fieldLink RX6 13 "PacketTracebackModel" "addressOf" "[I", .fieldLink RX6 7 "PacketTracebackModel" "parentOf" "[I", .fieldLink RX6 31 "PacketTracebackModel" "nodeParents" "[I", .methodLink RX6 172 yX6_routerWith, .instanceMethod yX6_routerWith, .selects RX6 yX6_routerWith yX6_routerWith, .code yX6_routerWith cX6_routerWith 3 (some .int), .fieldLink RX6 53 "PacketTracebackModel" "routers" "I"] ++ wsX60)
def wsX6_falseNodeCount : List Cond := .code yX6_falseNodeCount cX6_falseNodeCount 3 (some .int) :: ([.fieldLink RX6 166 "PacketTracebackModel" "nodes" "I", .methodLink RX6 175 yX6_routerOf, .instanceMethod yX6_routerOf, .selects RX6 yX6_routerOf yX6_routerOf, .initialized RX6, .code yX6_routerOf cX6_routerOf 5 (some .int), .fieldLink RX6 25 "PacketTracebackModel" "nodeAddresses" "[I", .fieldLink RX6 13 "PacketTracebackModel" "addressOf" "[I", .fieldLink RX6 7 "PacketTracebackModel" "parentOf" "[I", .fieldLink RX6 31 "PacketTracebackModel" "nodeParents" "[I", .methodLink RX6 172 yX6_routerWith, .instanceMethod yX6_routerWith, .selects RX6 yX6_routerWith yX6_routerWith, .code yX6_routerWith cX6_routerWith 3 (some .int), .fieldLink RX6 53 "PacketTracebackModel" "routers" "I"] ++ wsX60)
def wsX6_nodeOf : List Cond := .code yX6_nodeOf cX6_nodeOf 3 (some .int) :: ([.fieldLink RX6 166 "PacketTracebackModel" "nodes" "I", .methodLink RX6 60 yX6_isRouter, .instanceMethod yX6_isRouter, .selects RX6 yX6_isRouter yX6_isRouter, .initialized RX6, .code yX6_isRouter cX6_isRouter 2 (some .boolean), .fieldLink RX6 53 "PacketTracebackModel" "routers" "I", .methodLink RX6 56 yX6_within, .static yX6_within, .code yX6_within cX6_within 3 (some .boolean), .methodLink RX6 175 yX6_routerOf, .instanceMethod yX6_routerOf, .selects RX6 yX6_routerOf yX6_routerOf, .code yX6_routerOf cX6_routerOf 5 (some .int), .fieldLink RX6 25 "PacketTracebackModel" "nodeAddresses" "[I", .fieldLink RX6 13 "PacketTracebackModel" "addressOf" "[I", .fieldLink RX6 7 "PacketTracebackModel" "parentOf" "[I", .fieldLink RX6 31 "PacketTracebackModel" "nodeParents" "[I", .methodLink RX6 172 yX6_routerWith, .instanceMethod yX6_routerWith, .selects RX6 yX6_routerWith yX6_routerWith, .code yX6_routerWith cX6_routerWith 3 (some .int)] ++ wsX60)
def wsL_law_r1 : List Cond := [Cond.classLink RL 7 RX5, Cond.instantiable RX5 8, Cond.initialized RX5, Cond.classLink RL 10 RX6, Cond.instantiable RX6 24, Cond.initialized RX6, Cond.methodLink RL 9 yX5_init, Cond.instanceMethod yX5_init, Cond.code yX5_init cX5_init 1 none, Cond.methodLink RX5 1 objectInit, Cond.instanceMethod objectInit, Cond.code objectInit ⟨#[0xb1]⟩ 1 none, Cond.classLink RX5 7 RX2, Cond.instantiable RX2 4, Cond.initialized RX2, Cond.fieldLink RX5 10 "PacketTraceback" "network" "LPacketTraceback$Network;", Cond.classLink RX5 16 RX0, Cond.instantiable RX0 1, Cond.initialized RX0, Cond.fieldLink RX5 19 "PacketTraceback" "generator" "LPacketTraceback$Generator;", Cond.classLink RX5 23 RX4, Cond.instantiable RX4 5, Cond.initialized RX4, Cond.fieldLink RX5 26 "PacketTraceback" "packet" "LPacketTraceback$Packet;"]
def wsL_law_r2 : List Cond := [Cond.classLink RX5 30 RX1, Cond.instantiable RX1 4, Cond.initialized RX1, Cond.fieldLink RX5 33 "PacketTraceback" "marks" "LPacketTraceback$MarkRecord;", Cond.arrayClass .int, Cond.fieldLink RX5 37 "PacketTraceback" "offsetsSeen" "[I", Cond.fieldLink RX5 41 "PacketTraceback" "markingPercent" "I", Cond.classLink RX5 45 RX3, Cond.instantiable RX3 4, Cond.initialized RX3, Cond.fieldLink RX5 48 "PacketTraceback" "nodes" "LPacketTraceback$NodeTable;", Cond.fieldLink RX5 52 "PacketTraceback" "spareNodes" "LPacketTraceback$NodeTable;", Cond.methodLink RX5 9 yX2_init, Cond.instanceMethod yX2_init, Cond.code yX2_init cX2_init 1 none, Cond.methodLink RX2 3 objectInit, Cond.fieldLink RX2 9 "PacketTraceback$Network" "parents" "[I", Cond.fieldLink RX2 15 "PacketTraceback$Network" "addresses" "[I", Cond.fieldLink RX2 18 "PacketTraceback$Network" "depths" "[I", Cond.fieldLink RX2 21 "PacketTraceback$Network" "count" "I", Cond.methodLink RX5 18 yX0_init, Cond.instanceMethod yX0_init, Cond.code yX0_init cX0_init 1 none, Cond.methodLink RX0 1 objectInit]
def wsL_law_r3 : List Cond := [Cond.fieldLink RX0 7 "PacketTraceback$Generator" "state" "I", Cond.methodLink RX5 25 yX4_init, Cond.instanceMethod yX4_init, Cond.code yX4_init cX4_init 1 none, Cond.methodLink RX4 3 objectInit, Cond.fieldLink RX4 9 "PacketTraceback$Packet" "marked" "Z", Cond.fieldLink RX4 15 "PacketTraceback$Packet" "markedByRouter" "Z", Cond.fieldLink RX4 18 "PacketTraceback$Packet" "distance" "I", Cond.fieldLink RX4 22 "PacketTraceback$Packet" "offset" "I", Cond.fieldLink RX4 25 "PacketTraceback$Packet" "fragment" "I", Cond.methodLink RX5 32 yX1_init, Cond.instanceMethod yX1_init, Cond.code yX1_init cX1_init 1 none, Cond.methodLink RX1 3 objectInit, Cond.fieldLink RX1 9 "PacketTraceback$MarkRecord" "counts" "[I", Cond.fieldLink RX1 15 "PacketTraceback$MarkRecord" "fragmentSets" "[I", Cond.fieldLink RX1 18 "PacketTraceback$MarkRecord" "unmarkedPackets" "I", Cond.fieldLink RX1 22 "PacketTraceback$MarkRecord" "markedPackets" "I", Cond.methodLink RX5 47 yX3_init, Cond.instanceMethod yX3_init, Cond.code yX3_init cX3_init 1 none, Cond.methodLink RX3 3 objectInit, Cond.fieldLink RX3 9 "PacketTraceback$NodeTable" "addresses" "[I", Cond.fieldLink RX3 15 "PacketTraceback$NodeTable" "distances" "[I"]
def wsL_law_r4 : List Cond := [Cond.fieldLink RX3 18 "PacketTraceback$NodeTable" "parents" "[I", Cond.fieldLink RX3 21 "PacketTraceback$NodeTable" "count" "I", Cond.methodLink RL 12 yX6_init, Cond.instanceMethod yX6_init, Cond.code yX6_init cX6_init 1 none, Cond.methodLink RX6 1 objectInit, Cond.fieldLink RX6 7 "PacketTracebackModel" "parentOf" "[I", Cond.fieldLink RX6 13 "PacketTracebackModel" "addressOf" "[I", Cond.fieldLink RX6 16 "PacketTracebackModel" "depthOf" "[I", Cond.fieldLink RX6 19 "PacketTracebackModel" "marks" "[I", Cond.fieldLink RX6 22 "PacketTracebackModel" "missing" "[I", Cond.fieldLink RX6 25 "PacketTracebackModel" "nodeAddresses" "[I", Cond.fieldLink RX6 28 "PacketTracebackModel" "nodeDistances" "[I", Cond.fieldLink RX6 31 "PacketTracebackModel" "nodeParents" "[I", Cond.fieldLink RX6 34 "PacketTracebackModel" "foundAddress" "[I", Cond.fieldLink RX6 37 "PacketTracebackModel" "foundDistance" "[I", Cond.fieldLink RX6 40 "PacketTracebackModel" "foundParent" "[I", Cond.fieldLink RX6 43 "PacketTracebackModel" "wordAt" "[I", Cond.fieldLink RX6 46 "PacketTracebackModel" "percent" "I", Cond.fieldLink RX6 50 "PacketTracebackModel" "random" "I", Cond.methodLink RL 13 yX5_addRouter, Cond.instanceMethod yX5_addRouter, Cond.selects RX5 yX5_addRouter yX5_addRouter, Cond.code yX5_addRouter cX5_addRouter 3 (some .int)]
def wsL_law_r5 : List Cond := [Cond.methodLink RX5 55 yX2_isEmpty, Cond.instanceMethod yX2_isEmpty, Cond.selects RX2 yX2_isEmpty yX2_isEmpty, Cond.code yX2_isEmpty cX2_isEmpty 1 (some .boolean), Cond.methodLink RX5 59 yX2_has, Cond.instanceMethod yX2_has, Cond.selects RX2 yX2_has yX2_has, Cond.code yX2_has cX2_has 2 (some .boolean), Cond.static yX5_isBelow, Cond.code yX5_isBelow cX5_isBelow 2 (some .boolean), Cond.methodLink RX5 63 yX5_isBelow, Cond.methodLink RX5 67 yX2_find, Cond.instanceMethod yX2_find, Cond.selects RX2 yX2_find yX2_find, Cond.code yX2_find cX2_find 3 (some .int), Cond.methodLink RX5 71 yX2_append, Cond.instanceMethod yX2_append, Cond.selects RX2 yX2_append yX2_append, Cond.code yX2_append cX2_append 5 (some .int), Cond.methodLink RX2 29 yX2_depthOf, Cond.instanceMethod yX2_depthOf, Cond.selects RX2 yX2_depthOf yX2_depthOf, Cond.code yX2_depthOf cX2_depthOf 2 (some .int), Cond.methodLink RX2 33 yX2_has]
def wsL_law_r6 : List Cond := [Cond.methodLink RL 17 yX6_addRouter, Cond.instanceMethod yX6_addRouter, Cond.selects RX6 yX6_addRouter yX6_addRouter, Cond.code yX6_addRouter cX6_addRouter 3 (some .int), Cond.fieldLink RX6 53 "PacketTracebackModel" "routers" "I", Cond.methodLink RX6 60 yX6_isRouter, Cond.instanceMethod yX6_isRouter, Cond.selects RX6 yX6_isRouter yX6_isRouter, Cond.code yX6_isRouter cX6_isRouter 2 (some .boolean), Cond.methodLink RX6 56 yX6_within, Cond.static yX6_within, Cond.code yX6_within cX6_within 3 (some .boolean), Cond.methodLink RX6 64 yX6_isAddress, Cond.static yX6_isAddress, Cond.code yX6_isAddress cX6_isAddress 1 (some .boolean), Cond.methodLink RX6 67 yX6_isUsed, Cond.instanceMethod yX6_isUsed, Cond.selects RX6 yX6_isUsed yX6_isUsed, Cond.code yX6_isUsed cX6_isUsed 3 (some .boolean), Cond.methodLink RL 18 yX5_routerCount, Cond.instanceMethod yX5_routerCount, Cond.selects RX5 yX5_routerCount yX5_routerCount, Cond.code yX5_routerCount cX5_routerCount 1 (some .int), Cond.methodLink RX5 75 yX2_size]
def wsL_law_r7 : List Cond := [Cond.instanceMethod yX2_size, Cond.selects RX2 yX2_size yX2_size, Cond.code yX2_size cX2_size 1 (some .int), Cond.methodLink RL 22 yX6_routerCount, Cond.instanceMethod yX6_routerCount, Cond.selects RX6 yX6_routerCount yX6_routerCount, Cond.code yX6_routerCount cX6_routerCount 1 (some .int), Cond.methodLink RL 23 yX5_depth, Cond.instanceMethod yX5_depth, Cond.selects RX5 yX5_depth yX5_depth, Cond.code yX5_depth cX5_depth 2 (some .int), Cond.methodLink RX5 79 yX2_depthOf, Cond.methodLink RL 27 yX6_depth, Cond.instanceMethod yX6_depth, Cond.selects RX6 yX6_depth yX6_depth, Cond.code yX6_depth cX6_depth 2 (some .int), Cond.methodLink RL 28 yX5_digest, Cond.instanceMethod yX5_digest, Cond.selects RX5 yX5_digest yX5_digest, Cond.code yX5_digest cX5_digest 2 (some .int), Cond.methodLink RX5 82 yX5_digestOf, Cond.static yX5_digestOf, Cond.code yX5_digestOf cX5_digestOf 1 (some .int), Cond.methodLink RL 31 yX6_digest]
def wsL_law_r8 : List Cond := [Cond.instanceMethod yX6_digest, Cond.selects RX6 yX6_digest yX6_digest, Cond.code yX6_digest cX6_digest 2 (some .int), Cond.methodLink RX6 70 yX6_digestOf, Cond.static yX6_digestOf, Cond.code yX6_digestOf cX6_digestOf 1 (some .int), Cond.methodLink RL 32 yX5_fragment, Cond.instanceMethod yX5_fragment, Cond.selects RX5 yX5_fragment yX5_fragment, Cond.code yX5_fragment cX5_fragment 3 (some .int), Cond.methodLink RX5 85 yX5_wordOf, Cond.static yX5_wordOf, Cond.code yX5_wordOf cX5_wordOf 1 (some .int), Cond.methodLink RX5 88 yX5_fragmentOf, Cond.static yX5_fragmentOf, Cond.code yX5_fragmentOf cX5_fragmentOf 2 (some .int), Cond.methodLink RL 35 yX6_fragment, Cond.instanceMethod yX6_fragment, Cond.selects RX6 yX6_fragment yX6_fragment, Cond.code yX6_fragment cX6_fragment 3 (some .int), Cond.methodLink RX6 74 yX6_wordOf, Cond.static yX6_wordOf, Cond.code yX6_wordOf cX6_wordOf 1 (some .int), Cond.methodLink RX6 77 yX6_fragmentOf]
def wsL_law_r9 : List Cond := [Cond.static yX6_fragmentOf, Cond.code yX6_fragmentOf cX6_fragmentOf 2 (some .int), Cond.methodLink RL 36 yX5_setMarkingPercent, Cond.instanceMethod yX5_setMarkingPercent, Cond.selects RX5 yX5_setMarkingPercent yX5_setMarkingPercent, Cond.code yX5_setMarkingPercent cX5_setMarkingPercent 3 (some .int), Cond.methodLink RX5 91 yX5_isFromOneTo, Cond.static yX5_isFromOneTo, Cond.code yX5_isFromOneTo cX5_isFromOneTo 2 (some .boolean), Cond.methodLink RL 39 yX6_setMarkingPercent, Cond.instanceMethod yX6_setMarkingPercent, Cond.selects RX6 yX6_setMarkingPercent yX6_setMarkingPercent, Cond.code yX6_setMarkingPercent cX6_setMarkingPercent 3 (some .int), Cond.methodLink RL 40 yX5_setSeed, Cond.instanceMethod yX5_setSeed, Cond.selects RX5 yX5_setSeed yX5_setSeed, Cond.code yX5_setSeed cX5_setSeed 2 (some .int), Cond.methodLink RX5 94 yX0_restart, Cond.instanceMethod yX0_restart, Cond.selects RX0 yX0_restart yX0_restart, Cond.code yX0_restart cX0_restart 3 (some .int), Cond.methodLink RL 43 yX6_setSeed, Cond.instanceMethod yX6_setSeed, Cond.selects RX6 yX6_setSeed yX6_setSeed]
def wsL_law_r10 : List Cond := [Cond.code yX6_setSeed cX6_setSeed 3 (some .int), Cond.methodLink RL 44 yX5_clearMarks, Cond.instanceMethod yX5_clearMarks, Cond.selects RX5 yX5_clearMarks yX5_clearMarks, Cond.code yX5_clearMarks cX5_clearMarks 2 (some .int), Cond.methodLink RX5 97 yX1_received, Cond.instanceMethod yX1_received, Cond.selects RX1 yX1_received yX1_received, Cond.code yX1_received cX1_received 1 (some .int), Cond.methodLink RX5 100 yX1_clear, Cond.instanceMethod yX1_clear, Cond.selects RX1 yX1_clear yX1_clear, Cond.code yX1_clear cX1_clear 1 none, Cond.methodLink RX1 29 yJ7_fill_53178, Cond.static yJ7_fill_53178, Cond.initialized RJ7, Cond.code yJ7_fill_53178 cJ7_fill_53178 4 none, Cond.methodLink RL 47 yX6_clearMarks, Cond.instanceMethod yX6_clearMarks, Cond.selects RX6 yX6_clearMarks yX6_clearMarks, Cond.code yX6_clearMarks cX6_clearMarks 3 (some .int), Cond.fieldLink RX6 103 "PacketTracebackModel" "received" "I", Cond.fieldLink RX6 106 "PacketTracebackModel" "unmarked" "I", Cond.methodLink RL 48 yX5_sendPackets]
def wsL_law_r11 : List Cond := [Cond.instanceMethod yX5_sendPackets, Cond.selects RX5 yX5_sendPackets yX5_sendPackets, Cond.code yX5_sendPackets cX5_sendPackets 5 (some .int), Cond.methodLink RX5 103 yX4_startUnmarked, Cond.instanceMethod yX4_startUnmarked, Cond.selects RX4 yX4_startUnmarked yX4_startUnmarked, Cond.code yX4_startUnmarked cX4_startUnmarked 1 none, Cond.methodLink RX4 28 yX4_putMark, Cond.instanceMethod yX4_putMark, Cond.selects RX4 yX4_putMark yX4_putMark, Cond.code yX4_putMark cX4_putMark 4 none, Cond.methodLink RX5 106 yX5_deliver, Cond.instanceMethod yX5_deliver, Cond.selects RX5 yX5_deliver yX5_deliver, Cond.code yX5_deliver cX5_deliver 2 (some .int), Cond.methodLink RX5 164 yX5_carryToVictim, Cond.instanceMethod yX5_carryToVictim, Cond.selects RX5 yX5_carryToVictim yX5_carryToVictim, Cond.code yX5_carryToVictim cX5_carryToVictim 4 none, Cond.methodLink RX5 175 yX2_wordAt, Cond.instanceMethod yX2_wordAt, Cond.selects RX2 yX2_wordAt yX2_wordAt, Cond.code yX2_wordAt cX2_wordAt 2 (some .int), Cond.methodLink RX2 37 yX2_addressOf]
def wsL_law_r12 : List Cond := [Cond.instanceMethod yX2_addressOf, Cond.selects RX2 yX2_addressOf yX2_addressOf, Cond.code yX2_addressOf cX2_addressOf 2 (some .int), Cond.methodLink RX5 178 yX5_passRouter, Cond.instanceMethod yX5_passRouter, Cond.selects RX5 yX5_passRouter yX5_passRouter, Cond.code yX5_passRouter cX5_passRouter 3 none, Cond.methodLink RX5 181 yX0_draw, Cond.instanceMethod yX0_draw, Cond.selects RX0 yX0_draw yX0_draw, Cond.code yX0_draw cX0_draw 1 (some .int), Cond.constant RX0 13 (1103515245), Cond.methodLink RX5 184 yX4_takeMark, Cond.instanceMethod yX4_takeMark, Cond.selects RX4 yX4_takeMark yX4_takeMark, Cond.code yX4_takeMark cX4_takeMark 3 none, Cond.methodLink RX5 188 yX4_goOn, Cond.instanceMethod yX4_goOn, Cond.selects RX4 yX4_goOn yX4_goOn, Cond.code yX4_goOn cX4_goOn 2 none, Cond.methodLink RX5 139 yX2_parentOf, Cond.instanceMethod yX2_parentOf, Cond.selects RX2 yX2_parentOf yX2_parentOf, Cond.code yX2_parentOf cX2_parentOf 2 (some .int)]
def wsL_law_r13 : List Cond := [Cond.methodLink RX5 168 yX1_note, Cond.instanceMethod yX1_note, Cond.selects RX1 yX1_note yX1_note, Cond.code yX1_note cX1_note 3 none, Cond.methodLink RX1 35 yX4_isMarked, Cond.instanceMethod yX4_isMarked, Cond.selects RX4 yX4_isMarked yX4_isMarked, Cond.code yX4_isMarked cX4_isMarked 1 (some .boolean), Cond.methodLink RX1 41 yX4_fragmentValue, Cond.instanceMethod yX4_fragmentValue, Cond.selects RX4 yX4_fragmentValue yX4_fragmentValue, Cond.code yX4_fragmentValue cX4_fragmentValue 1 (some .int), Cond.methodLink RX1 45 yX4_distance, Cond.instanceMethod yX4_distance, Cond.selects RX4 yX4_distance yX4_distance, Cond.code yX4_distance cX4_distance 1 (some .int), Cond.methodLink RX1 48 yX4_offset, Cond.instanceMethod yX4_offset, Cond.selects RX4 yX4_offset yX4_offset, Cond.code yX4_offset cX4_offset 1 (some .int), Cond.methodLink RX1 51 yX1_countPlace, Cond.static yX1_countPlace, Cond.code yX1_countPlace cX1_countPlace 3 (some .int), Cond.methodLink RX1 25 yX1_setPlace]
def wsL_law_r14 : List Cond := [Cond.static yX1_setPlace, Cond.code yX1_setPlace cX1_setPlace 2 (some .int), Cond.methodLink RX5 172 yX4_isMarkedByRouter, Cond.instanceMethod yX4_isMarkedByRouter, Cond.selects RX4 yX4_isMarkedByRouter yX4_isMarkedByRouter, Cond.code yX4_isMarkedByRouter cX4_isMarkedByRouter 1 (some .boolean), Cond.methodLink RL 51 yX6_sendPackets, Cond.instanceMethod yX6_sendPackets, Cond.selects RX6 yX6_sendPackets yX6_sendPackets, Cond.code yX6_sendPackets cX6_sendPackets 5 (some .int), Cond.fieldLink RX6 89 "PacketTracebackModel" "distance" "I", Cond.methodLink RX6 113 yX6_travels, Cond.instanceMethod yX6_travels, Cond.selects RX6 yX6_travels yX6_travels, Cond.code yX6_travels cX6_travels 3 none, Cond.methodLink RX6 99 yX6_process, Cond.instanceMethod yX6_process, Cond.selects RX6 yX6_process yX6_process, Cond.code yX6_process cX6_process 3 none, Cond.fieldLink RX6 86 "PacketTracebackModel" "offset" "I", Cond.fieldLink RX6 92 "PacketTracebackModel" "value" "I", Cond.fieldLink RX6 95 "PacketTracebackModel" "isMade" "Z", Cond.methodLink RX6 82 yX6_draws, Cond.instanceMethod yX6_draws]
def wsL_law_r15 : List Cond := [Cond.selects RX6 yX6_draws yX6_draws, Cond.code yX6_draws cX6_draws 1 (some .int), Cond.constant RX6 81 (1103515245), Cond.methodLink RX6 116 yX6_records, Cond.instanceMethod yX6_records, Cond.selects RX6 yX6_records yX6_records, Cond.code yX6_records cX6_records 1 none, Cond.methodLink RX6 109 yX6_placeOf, Cond.static yX6_placeOf, Cond.code yX6_placeOf cX6_placeOf 3 (some .int), Cond.methodLink RL 52 yX5_sendForged, Cond.instanceMethod yX5_sendForged, Cond.selects RX5 yX5_sendForged yX5_sendForged, Cond.code yX5_sendForged cX5_sendForged 8 (some .int), Cond.methodLink RX5 109 yX5_isMark, Cond.static yX5_isMark, Cond.code yX5_isMark cX5_isMark 3 (some .boolean), Cond.methodLink RX5 113 yX4_startForged, Cond.instanceMethod yX4_startForged, Cond.selects RX4 yX4_startForged yX4_startForged, Cond.code yX4_startForged cX4_startForged 4 none, Cond.methodLink RL 56 yX6_sendForged, Cond.instanceMethod yX6_sendForged, Cond.selects RX6 yX6_sendForged yX6_sendForged]
def wsL_law_r16 : List Cond := [Cond.code yX6_sendForged cX6_sendForged 8 (some .int), Cond.methodLink RX6 119 yX6_isMark, Cond.static yX6_isMark, Cond.code yX6_isMark cX6_isMark 3 (some .boolean), Cond.methodLink RL 57 yX5_packetsAtDistance, Cond.instanceMethod yX5_packetsAtDistance, Cond.selects RX5 yX5_packetsAtDistance yX5_packetsAtDistance, Cond.code yX5_packetsAtDistance cX5_packetsAtDistance 2 (some .int), Cond.methodLink RX5 117 yX1_countAt, Cond.instanceMethod yX1_countAt, Cond.selects RX1 yX1_countAt yX1_countAt, Cond.code yX1_countAt cX1_countAt 5 (some .int), Cond.methodLink RX1 55 yX1_countOf, Cond.instanceMethod yX1_countOf, Cond.selects RX1 yX1_countOf yX1_countOf, Cond.code yX1_countOf cX1_countOf 4 (some .int), Cond.methodLink RL 60 yX6_packetsAtDistance, Cond.instanceMethod yX6_packetsAtDistance, Cond.selects RX6 yX6_packetsAtDistance yX6_packetsAtDistance, Cond.code yX6_packetsAtDistance cX6_packetsAtDistance 2 (some .int), Cond.methodLink RX6 122 yX6_packetsAt, Cond.instanceMethod yX6_packetsAt, Cond.selects RX6 yX6_packetsAt yX6_packetsAt, Cond.code yX6_packetsAt cX6_packetsAt 4 (some .int)]
def wsL_law_r17 : List Cond := [Cond.methodLink RL 61 yX5_unmarkedCount, Cond.instanceMethod yX5_unmarkedCount, Cond.selects RX5 yX5_unmarkedCount yX5_unmarkedCount, Cond.code yX5_unmarkedCount cX5_unmarkedCount 1 (some .int), Cond.methodLink RX5 120 yX1_unmarked, Cond.instanceMethod yX1_unmarked, Cond.selects RX1 yX1_unmarked yX1_unmarked, Cond.code yX1_unmarked cX1_unmarked 1 (some .int), Cond.methodLink RL 64 yX6_unmarkedCount, Cond.instanceMethod yX6_unmarkedCount, Cond.selects RX6 yX6_unmarkedCount yX6_unmarkedCount, Cond.code yX6_unmarkedCount cX6_unmarkedCount 1 (some .int), Cond.methodLink RL 65 yX5_markCount, Cond.instanceMethod yX5_markCount, Cond.selects RX5 yX5_markCount yX5_markCount, Cond.code yX5_markCount cX5_markCount 4 (some .int), Cond.methodLink RX5 123 yX1_countOf, Cond.methodLink RL 69 yX6_markCount, Cond.instanceMethod yX6_markCount, Cond.selects RX6 yX6_markCount yX6_markCount, Cond.code yX6_markCount cX6_markCount 4 (some .int), Cond.methodLink RL 70 yX5_fragmentCount, Cond.instanceMethod yX5_fragmentCount, Cond.selects RX5 yX5_fragmentCount yX5_fragmentCount]
def wsL_law_r18 : List Cond := [Cond.code yX5_fragmentCount cX5_fragmentCount 3 (some .int), Cond.methodLink RX5 127 yX1_differentFragments, Cond.instanceMethod yX1_differentFragments, Cond.selects RX1 yX1_differentFragments yX1_differentFragments, Cond.code yX1_differentFragments cX1_differentFragments 3 (some .int), Cond.methodLink RX1 58 yJ6_bitCount_0f7a4, Cond.static yJ6_bitCount_0f7a4, Cond.initialized RJ6, Cond.code yJ6_bitCount_0f7a4 cJ6_bitCount_0f7a4 1 (some .int), Cond.constant RJ6 265 (1431655765), Cond.constant RJ6 266 (858993459), Cond.constant RJ6 267 (252645135), Cond.methodLink RL 73 yX6_fragmentCount, Cond.instanceMethod yX6_fragmentCount, Cond.selects RX6 yX6_fragmentCount yX6_fragmentCount, Cond.code yX6_fragmentCount cX6_fragmentCount 3 (some .int), Cond.methodLink RX6 125 yX6_different, Cond.instanceMethod yX6_different, Cond.selects RX6 yX6_different yX6_different, Cond.code yX6_different cX6_different 5 (some .int), Cond.methodLink RL 74 yX5_greatestDistance, Cond.instanceMethod yX5_greatestDistance, Cond.selects RX5 yX5_greatestDistance yX5_greatestDistance, Cond.code yX5_greatestDistance cX5_greatestDistance 2 (some .int)]
def wsL_law_r19 : List Cond := [Cond.methodLink RX5 130 yX1_hasDistance, Cond.instanceMethod yX1_hasDistance, Cond.selects RX1 yX1_hasDistance yX1_hasDistance, Cond.code yX1_hasDistance cX1_hasDistance 3 (some .boolean), Cond.methodLink RL 77 yX6_greatestDistance, Cond.instanceMethod yX6_greatestDistance, Cond.selects RX6 yX6_greatestDistance yX6_greatestDistance, Cond.code yX6_greatestDistance cX6_greatestDistance 2 (some .int), Cond.methodLink RL 78 yX5_isPathComplete, Cond.instanceMethod yX5_isPathComplete, Cond.selects RX5 yX5_isPathComplete yX5_isPathComplete, Cond.code yX5_isPathComplete cX5_isPathComplete 4 (some .int), Cond.methodLink RX5 133 yX2_trueMarksOf, Cond.instanceMethod yX2_trueMarksOf, Cond.selects RX2 yX2_trueMarksOf yX2_trueMarksOf, Cond.code yX2_trueMarksOf cX2_trueMarksOf 3 (some .int), Cond.methodLink RX2 43 yX2_parentOf, Cond.methodLink RX2 46 yX2_wordAt, Cond.methodLink RX5 136 yX1_holdsWord, Cond.instanceMethod yX1_holdsWord, Cond.selects RX1 yX1_holdsWord yX1_holdsWord, Cond.code yX1_holdsWord cX1_holdsWord 4 (some .boolean), Cond.methodLink RX1 70 yX1_holdsPart, Cond.instanceMethod yX1_holdsPart]
def wsL_law_r20 : List Cond := [Cond.selects RX1 yX1_holdsPart yX1_holdsPart, Cond.code yX1_holdsPart cX1_holdsPart 5 (some .boolean), Cond.methodLink RL 81 yX6_isPathComplete, Cond.instanceMethod yX6_isPathComplete, Cond.selects RX6 yX6_isPathComplete yX6_isPathComplete, Cond.code yX6_isPathComplete cX6_isPathComplete 4 (some .int), Cond.methodLink RX6 128 yX6_trueFragment, Cond.instanceMethod yX6_trueFragment, Cond.selects RX6 yX6_trueFragment yX6_trueFragment, Cond.code yX6_trueFragment cX6_trueFragment 4 (some .int), Cond.methodLink RL 82 yX5_packetsNeeded, Cond.instanceMethod yX5_packetsNeeded, Cond.selects RX5 yX5_packetsNeeded yX5_packetsNeeded, Cond.code yX5_packetsNeeded cX5_packetsNeeded 5 (some .int), Cond.methodLink RX5 142 yX0_state, Cond.instanceMethod yX0_state, Cond.selects RX0 yX0_state yX0_state, Cond.code yX0_state cX0_state 1 (some .int), Cond.methodLink RX5 145 yX5_tryPackets, Cond.instanceMethod yX5_tryPackets, Cond.selects RX5 yX5_tryPackets yX5_tryPackets, Cond.code yX5_tryPackets cX5_tryPackets 5 (some .int), Cond.methodLink RX5 191 yJ7_fill_53178, Cond.methodLink RX5 197 yX5_isNewOnPath]
def wsL_law_r21 : List Cond := [Cond.instanceMethod yX5_isNewOnPath, Cond.selects RX5 yX5_isNewOnPath yX5_isNewOnPath, Cond.code yX5_isNewOnPath cX5_isNewOnPath 3 (some .boolean), Cond.methodLink RX5 200 yX4_distance, Cond.methodLink RX5 203 yX4_offset, Cond.methodLink RL 85 yX6_packetsNeeded, Cond.instanceMethod yX6_packetsNeeded, Cond.selects RX6 yX6_packetsNeeded yX6_packetsNeeded, Cond.code yX6_packetsNeeded cX6_packetsNeeded 5 (some .int), Cond.methodLink RX6 131 yX6_startsTrial, Cond.instanceMethod yX6_startsTrial, Cond.selects RX6 yX6_startsTrial yX6_startsTrial, Cond.code yX6_startsTrial cX6_startsTrial 3 none, Cond.methodLink RX6 134 yX6_isTrialComplete, Cond.instanceMethod yX6_isTrialComplete, Cond.selects RX6 yX6_isTrialComplete yX6_isTrialComplete, Cond.code yX6_isTrialComplete cX6_isTrialComplete 2 (some .boolean), Cond.methodLink RL 86 yX5_reconstruct, Cond.instanceMethod yX5_reconstruct, Cond.selects RX5 yX5_reconstruct yX5_reconstruct, Cond.code yX5_reconstruct cX5_reconstruct 2 (some .int), Cond.methodLink RX5 148 yX3_clear, Cond.instanceMethod yX3_clear, Cond.selects RX3 yX3_clear yX3_clear]
def wsL_law_r22 : List Cond := [Cond.code yX3_clear cX3_clear 1 none, Cond.methodLink RX5 149 yX5_findTree, Cond.instanceMethod yX5_findTree, Cond.selects RX5 yX5_findTree yX5_findTree, Cond.code yX5_findTree cX5_findTree 4 (some .boolean), Cond.methodLink RX5 152 yX3_size, Cond.instanceMethod yX3_size, Cond.selects RX3 yX3_size yX3_size, Cond.code yX3_size cX3_size 1 (some .int), Cond.methodLink RX5 206 yX1_combinations, Cond.instanceMethod yX1_combinations, Cond.selects RX1 yX1_combinations yX1_combinations, Cond.code yX1_combinations cX1_combinations 4 (some .int), Cond.methodLink RX1 64 yX1_differentFragments, Cond.methodLink RX5 209 yX5_findLevel, Cond.instanceMethod yX5_findLevel, Cond.selects RX5 yX5_findLevel yX5_findLevel, Cond.code yX5_findLevel cX5_findLevel 5 (some .boolean), Cond.methodLink RX5 212 yX5_findChildren, Cond.instanceMethod yX5_findChildren, Cond.selects RX5 yX5_findChildren yX5_findChildren, Cond.code yX5_findChildren cX5_findChildren 7 (some .boolean), Cond.methodLink RX5 215 yX1_holdsPart, Cond.methodLink RX5 218 yX3_append]
def wsL_law_r23 : List Cond := [Cond.instanceMethod yX3_append, Cond.selects RX3 yX3_append yX3_append, Cond.code yX3_append cX3_append 4 (some .boolean), Cond.methodLink RX5 154 yX3_addressOf, Cond.instanceMethod yX3_addressOf, Cond.selects RX3 yX3_addressOf yX3_addressOf, Cond.code yX3_addressOf cX3_addressOf 2 (some .int), Cond.methodLink RX3 29 yX3_has, Cond.instanceMethod yX3_has, Cond.selects RX3 yX3_has yX3_has, Cond.code yX3_has cX3_has 2 (some .boolean), Cond.methodLink RL 89 yX6_reconstruct, Cond.instanceMethod yX6_reconstruct, Cond.selects RX6 yX6_reconstruct yX6_reconstruct, Cond.code yX6_reconstruct cX6_reconstruct 3 (some .int), Cond.fieldLink RX6 147 "PacketTracebackModel" "found" "I", Cond.fieldLink RX6 166 "PacketTracebackModel" "nodes" "I", Cond.methodLink RX6 163 yX6_findDistance, Cond.instanceMethod yX6_findDistance, Cond.selects RX6 yX6_findDistance yX6_findDistance, Cond.code yX6_findDistance cX6_findDistance 4 (some .boolean), Cond.methodLink RX6 138 yX6_combinations, Cond.instanceMethod yX6_combinations, Cond.selects RX6 yX6_combinations yX6_combinations]
def wsL_law_r24 : List Cond := [Cond.code yX6_combinations cX6_combinations 4 (some .int), Cond.methodLink RX6 156 yX6_findWords, Cond.instanceMethod yX6_findWords, Cond.selects RX6 yX6_findWords yX6_findWords, Cond.code yX6_findWords cX6_findWords 7 none, Cond.fieldLink RX6 141 "PacketTracebackModel" "words" "I", Cond.methodLink RX6 144 yX6_fragmentAt, Cond.instanceMethod yX6_fragmentAt, Cond.selects RX6 yX6_fragmentAt yX6_fragmentAt, Cond.code yX6_fragmentAt cX6_fragmentAt 6 (some .int), Cond.methodLink RX6 159 yX6_findNodes, Cond.instanceMethod yX6_findNodes, Cond.selects RX6 yX6_findNodes yX6_findNodes, Cond.code yX6_findNodes cX6_findNodes 6 (some .boolean), Cond.methodLink RX6 150 yX6_isWord, Cond.static yX6_isWord, Cond.code yX6_isWord cX6_isWord 1 (some .boolean), Cond.methodLink RX6 153 yX6_adds, Cond.instanceMethod yX6_adds, Cond.selects RX6 yX6_adds yX6_adds, Cond.code yX6_adds cX6_adds 5 (some .boolean), Cond.methodLink RL 90 yX5_nodeCount, Cond.instanceMethod yX5_nodeCount, Cond.selects RX5 yX5_nodeCount yX5_nodeCount]
def wsL_law_r25 : List Cond := [Cond.code yX5_nodeCount cX5_nodeCount 1 (some .int), Cond.methodLink RL 93 yX6_nodeCount, Cond.instanceMethod yX6_nodeCount, Cond.selects RX6 yX6_nodeCount yX6_nodeCount, Cond.code yX6_nodeCount cX6_nodeCount 1 (some .int), Cond.methodLink RL 94 yX5_nodeAddress, Cond.instanceMethod yX5_nodeAddress, Cond.selects RX5 yX5_nodeAddress yX5_nodeAddress, Cond.code yX5_nodeAddress cX5_nodeAddress 2 (some .int), Cond.methodLink RX5 153 yX3_has, Cond.methodLink RL 97 yX6_nodeAddress, Cond.instanceMethod yX6_nodeAddress, Cond.selects RX6 yX6_nodeAddress yX6_nodeAddress, Cond.code yX6_nodeAddress cX6_nodeAddress 2 (some .int), Cond.methodLink RX6 169 yX6_isNode, Cond.instanceMethod yX6_isNode, Cond.selects RX6 yX6_isNode yX6_isNode, Cond.code yX6_isNode cX6_isNode 2 (some .boolean), Cond.methodLink RL 98 yX5_nodeDistance, Cond.instanceMethod yX5_nodeDistance, Cond.selects RX5 yX5_nodeDistance yX5_nodeDistance, Cond.code yX5_nodeDistance cX5_nodeDistance 2 (some .int), Cond.methodLink RX5 157 yX3_distanceOf, Cond.instanceMethod yX3_distanceOf]
def wsL_law_r26 : List Cond := [Cond.selects RX3 yX3_distanceOf yX3_distanceOf, Cond.code yX3_distanceOf cX3_distanceOf 2 (some .int), Cond.methodLink RL 101 yX6_nodeDistance, Cond.instanceMethod yX6_nodeDistance, Cond.selects RX6 yX6_nodeDistance yX6_nodeDistance, Cond.code yX6_nodeDistance cX6_nodeDistance 2 (some .int), Cond.methodLink RL 102 yX5_nodeParent, Cond.instanceMethod yX5_nodeParent, Cond.selects RX5 yX5_nodeParent yX5_nodeParent, Cond.code yX5_nodeParent cX5_nodeParent 2 (some .int), Cond.methodLink RX5 160 yX3_parentOf, Cond.instanceMethod yX3_parentOf, Cond.selects RX3 yX3_parentOf yX3_parentOf, Cond.code yX3_parentOf cX3_parentOf 2 (some .int), Cond.methodLink RL 105 yX6_nodeParent, Cond.instanceMethod yX6_nodeParent, Cond.selects RX6 yX6_nodeParent yX6_nodeParent, Cond.code yX6_nodeParent cX6_nodeParent 2 (some .int), Cond.methodLink RL 106 yX5_nodeRouter, Cond.instanceMethod yX5_nodeRouter, Cond.selects RX5 yX5_nodeRouter yX5_nodeRouter, Cond.code yX5_nodeRouter cX5_nodeRouter 2 (some .int), Cond.methodLink RX5 161 yX5_routerBehind, Cond.instanceMethod yX5_routerBehind]
def wsL_law_r27 : List Cond := [Cond.selects RX5 yX5_routerBehind yX5_routerBehind, Cond.code yX5_routerBehind cX5_routerBehind 6 (some .int), Cond.methodLink RX5 220 yX2_addressOf, Cond.methodLink RL 109 yX6_nodeRouter, Cond.instanceMethod yX6_nodeRouter, Cond.selects RX6 yX6_nodeRouter yX6_nodeRouter, Cond.code yX6_nodeRouter cX6_nodeRouter 2 (some .int), Cond.methodLink RX6 175 yX6_routerOf, Cond.instanceMethod yX6_routerOf, Cond.selects RX6 yX6_routerOf yX6_routerOf, Cond.code yX6_routerOf cX6_routerOf 5 (some .int), Cond.methodLink RX6 172 yX6_routerWith, Cond.instanceMethod yX6_routerWith, Cond.selects RX6 yX6_routerWith yX6_routerWith, Cond.code yX6_routerWith cX6_routerWith 3 (some .int), Cond.methodLink RL 110 yX5_falseNodeCount, Cond.instanceMethod yX5_falseNodeCount, Cond.selects RX5 yX5_falseNodeCount yX5_falseNodeCount, Cond.code yX5_falseNodeCount cX5_falseNodeCount 3 (some .int), Cond.methodLink RL 113 yX6_falseNodeCount, Cond.instanceMethod yX6_falseNodeCount, Cond.selects RX6 yX6_falseNodeCount yX6_falseNodeCount, Cond.code yX6_falseNodeCount cX6_falseNodeCount 3 (some .int), Cond.methodLink RL 114 yX5_nodeOf]
def wsL_law_r28 : List Cond := [Cond.instanceMethod yX5_nodeOf, Cond.selects RX5 yX5_nodeOf yX5_nodeOf, Cond.code yX5_nodeOf cX5_nodeOf 3 (some .int), Cond.methodLink RL 117 yX6_nodeOf, Cond.instanceMethod yX6_nodeOf, Cond.selects RX6 yX6_nodeOf yX6_nodeOf, Cond.code yX6_nodeOf cX6_nodeOf 3 (some .int)]
def wsL_law : List Cond := (wsL_law_r1 ++ (wsL_law_r2 ++ (wsL_law_r3 ++ (wsL_law_r4 ++ (wsL_law_r5 ++ (wsL_law_r6 ++ (wsL_law_r7 ++ (wsL_law_r8 ++ (wsL_law_r9 ++ (wsL_law_r10 ++ (wsL_law_r11 ++ (wsL_law_r12 ++ (wsL_law_r13 ++ (wsL_law_r14 ++ (wsL_law_r15 ++ (wsL_law_r16 ++ (wsL_law_r17 ++ (wsL_law_r18 ++ (wsL_law_r19 ++ (wsL_law_r20 ++ (wsL_law_r21 ++ (wsL_law_r22 ++ (wsL_law_r23 ++ (wsL_law_r24 ++ (wsL_law_r25 ++ (wsL_law_r26 ++ (wsL_law_r27 ++ wsL_law_r28))))))))))))))))))))))))))) ++ wsX50 ++ wsX60 ++ wsX20 ++ wsX00 ++ wsX40 ++ wsX10 ++ wsX30 ++ ([] : List Cond)
abbrev vwCl : List vw_C := [(RX0, TX0, 1), (RX1, TX1, 4), (RX2, TX2, 4), (RX3, TX3, 4), (RX4, TX4, 5), (RX5, TX5, 8), (RX6, TX6, 24)]
end
section
theorem dX0_init_0 : decode cX0_init 0 = .ok (.aload_n 0, 1) := by decide +kernel
theorem dX0_init_1 : decode cX0_init 1 = .ok (.invokespecial 1, 3) := by decide +kernel
theorem dX0_init_4 : decode cX0_init 4 = .ok (.aload_n 0, 1) := by decide +kernel
theorem dX0_init_5 : decode cX0_init 5 = .ok (.iconst 1, 1) := by decide +kernel
theorem dX0_init_6 : decode cX0_init 6 = .ok (.putfield 7, 3) := by decide +kernel
theorem dX0_init_9 : decode cX0_init 9 = .ok (.return_, 1) := by decide +kernel
theorem dX0_state_0 : decode cX0_state 0 = .ok (.aload_n 0, 1) := by decide +kernel
theorem dX0_state_1 : decode cX0_state 1 = .ok (.getfield 7, 3) := by decide +kernel
theorem dX0_state_4 : decode cX0_state 4 = .ok (.ireturn, 1) := by decide +kernel
theorem dX0_restart_0 : decode cX0_restart 0 = .ok (.aload_n 0, 1) := by decide +kernel
theorem dX0_restart_1 : decode cX0_restart 1 = .ok (.getfield 7, 3) := by decide +kernel
theorem dX0_restart_4 : decode cX0_restart 4 = .ok (.istore_n 2, 1) := by decide +kernel
theorem dX0_restart_5 : decode cX0_restart 5 = .ok (.aload_n 0, 1) := by decide +kernel
theorem dX0_restart_6 : decode cX0_restart 6 = .ok (.iload_n 1, 1) := by decide +kernel
theorem dX0_restart_7 : decode cX0_restart 7 = .ok (.putfield 7, 3) := by decide +kernel
theorem dX0_restart_10 : decode cX0_restart 10 = .ok (.iload_n 2, 1) := by decide +kernel
theorem dX0_restart_11 : decode cX0_restart 11 = .ok (.ireturn, 1) := by decide +kernel
theorem dX0_draw_0 : decode cX0_draw 0 = .ok (.aload_n 0, 1) := by decide +kernel
theorem dX0_draw_1 : decode cX0_draw 1 = .ok (.aload_n 0, 1) := by decide +kernel
theorem dX0_draw_2 : decode cX0_draw 2 = .ok (.getfield 7, 3) := by decide +kernel
theorem dX0_draw_5 : decode cX0_draw 5 = .ok (.ldc 13, 2) := by decide +kernel
theorem dX0_draw_7 : decode cX0_draw 7 = .ok (.imul, 1) := by decide +kernel
theorem dX0_draw_8 : decode cX0_draw 8 = .ok (.sipush 12345, 3) := by decide +kernel
theorem dX0_draw_11 : decode cX0_draw 11 = .ok (.iadd, 1) := by decide +kernel
theorem dX0_draw_12 : decode cX0_draw 12 = .ok (.putfield 7, 3) := by decide +kernel
theorem dX0_draw_15 : decode cX0_draw 15 = .ok (.aload_n 0, 1) := by decide +kernel
theorem dX0_draw_16 : decode cX0_draw 16 = .ok (.getfield 7, 3) := by decide +kernel
theorem dX0_draw_19 : decode cX0_draw 19 = .ok (.bipush 16, 2) := by decide +kernel
theorem dX0_draw_21 : decode cX0_draw 21 = .ok (.iushr, 1) := by decide +kernel
theorem dX0_draw_22 : decode cX0_draw 22 = .ok (.sipush 32767, 3) := by decide +kernel
theorem dX0_draw_25 : decode cX0_draw 25 = .ok (.iand, 1) := by decide +kernel
theorem dX0_draw_26 : decode cX0_draw 26 = .ok (.ireturn, 1) := by decide +kernel
theorem dX1_init_0 : decode cX1_init 0 = .ok (.aload_n 0, 1) := by decide +kernel
theorem dX1_init_1 : decode cX1_init 1 = .ok (.invokespecial 3, 3) := by decide +kernel
theorem dX1_init_4 : decode cX1_init 4 = .ok (.aload_n 0, 1) := by decide +kernel
theorem dX1_init_5 : decode cX1_init 5 = .ok (.sipush 4096, 3) := by decide +kernel
theorem dX1_init_8 : decode cX1_init 8 = .ok (.newarray .int, 2) := by decide +kernel
theorem dX1_init_10 : decode cX1_init 10 = .ok (.putfield 9, 3) := by decide +kernel
theorem dX1_init_13 : decode cX1_init 13 = .ok (.aload_n 0, 1) := by decide +kernel
theorem dX1_init_14 : decode cX1_init 14 = .ok (.sipush 128, 3) := by decide +kernel
theorem dX1_init_17 : decode cX1_init 17 = .ok (.newarray .int, 2) := by decide +kernel
theorem dX1_init_19 : decode cX1_init 19 = .ok (.putfield 15, 3) := by decide +kernel
theorem dX1_init_22 : decode cX1_init 22 = .ok (.aload_n 0, 1) := by decide +kernel
theorem dX1_init_23 : decode cX1_init 23 = .ok (.iconst 0, 1) := by decide +kernel
theorem dX1_init_24 : decode cX1_init 24 = .ok (.putfield 18, 3) := by decide +kernel
theorem dX1_init_27 : decode cX1_init 27 = .ok (.aload_n 0, 1) := by decide +kernel
theorem dX1_init_28 : decode cX1_init 28 = .ok (.iconst 0, 1) := by decide +kernel
theorem dX1_init_29 : decode cX1_init 29 = .ok (.putfield 22, 3) := by decide +kernel
theorem dX1_init_32 : decode cX1_init 32 = .ok (.return_, 1) := by decide +kernel
theorem dX1_setPlace_0 : decode cX1_setPlace 0 = .ok (.iload_n 0, 1) := by decide +kernel
theorem dX1_setPlace_1 : decode cX1_setPlace 1 = .ok (.bipush 31, 2) := by decide +kernel
theorem dX1_setPlace_3 : decode cX1_setPlace 3 = .ok (.iand, 1) := by decide +kernel
theorem dX1_setPlace_4 : decode cX1_setPlace 4 = .ok (.iconst 4, 1) := by decide +kernel
theorem dX1_setPlace_5 : decode cX1_setPlace 5 = .ok (.imul, 1) := by decide +kernel
theorem dX1_setPlace_6 : decode cX1_setPlace 6 = .ok (.iload_n 1, 1) := by decide +kernel
theorem dX1_setPlace_7 : decode cX1_setPlace 7 = .ok (.iconst 3, 1) := by decide +kernel
theorem dX1_setPlace_8 : decode cX1_setPlace 8 = .ok (.iand, 1) := by decide +kernel
theorem dX1_setPlace_9 : decode cX1_setPlace 9 = .ok (.iadd, 1) := by decide +kernel
theorem dX1_setPlace_10 : decode cX1_setPlace 10 = .ok (.ireturn, 1) := by decide +kernel
set_option maxRecDepth 20000 in
theorem ggX1_countPlace_X1_setPlace : GoodIn wsX1_countPlace wsX1_setPlace := goodIn_r _ [4] (by decide +kernel) (by decide +kernel)
set_option maxRecDepth 20000 in
theorem gX1_countPlace_X1_setPlace : GoodIn wsX1_countPlace (va_wsS RX1 25 yX1_setPlace wsX1_setPlace) := goodIn_app (goodIn_of _ (by decide +kernel)) ggX1_countPlace_X1_setPlace
theorem dX1_countPlace_0 : decode cX1_countPlace 0 = .ok (.iload_n 0, 1) := by decide +kernel
theorem dX1_countPlace_1 : decode cX1_countPlace 1 = .ok (.iload_n 1, 1) := by decide +kernel
theorem dX1_countPlace_2 : decode cX1_countPlace 2 = .ok (.invokestatic 25, 3) := by decide +kernel
theorem dX1_countPlace_5 : decode cX1_countPlace 5 = .ok (.bipush 32, 2) := by decide +kernel
theorem dX1_countPlace_7 : decode cX1_countPlace 7 = .ok (.imul, 1) := by decide +kernel
theorem dX1_countPlace_8 : decode cX1_countPlace 8 = .ok (.iload_n 2, 1) := by decide +kernel
theorem dX1_countPlace_9 : decode cX1_countPlace 9 = .ok (.bipush 31, 2) := by decide +kernel
theorem dX1_countPlace_11 : decode cX1_countPlace 11 = .ok (.iand, 1) := by decide +kernel
theorem dX1_countPlace_12 : decode cX1_countPlace 12 = .ok (.iadd, 1) := by decide +kernel
theorem dX1_countPlace_13 : decode cX1_countPlace 13 = .ok (.ireturn, 1) := by decide +kernel
set_option maxRecDepth 20000 in
theorem ggX1_clear_J7_fill_53178 : GoodIn wsX1_clear wsJ7_fill_53178 := goodIn_r _ [8] (by decide +kernel) (by decide +kernel)
set_option maxRecDepth 20000 in
theorem gX1_clear_J7_fill_53178 : GoodIn wsX1_clear (va_wsS RX1 29 yJ7_fill_53178 wsJ7_fill_53178) := goodIn_app (goodIn_of _ (by decide +kernel)) ggX1_clear_J7_fill_53178
theorem dX1_clear_0 : decode cX1_clear 0 = .ok (.aload_n 0, 1) := by decide +kernel
theorem dX1_clear_1 : decode cX1_clear 1 = .ok (.getfield 9, 3) := by decide +kernel
theorem dX1_clear_4 : decode cX1_clear 4 = .ok (.iconst 0, 1) := by decide +kernel
theorem dX1_clear_5 : decode cX1_clear 5 = .ok (.invokestatic 29, 3) := by decide +kernel
theorem dX1_clear_8 : decode cX1_clear 8 = .ok (.aload_n 0, 1) := by decide +kernel
theorem dX1_clear_9 : decode cX1_clear 9 = .ok (.getfield 15, 3) := by decide +kernel
theorem dX1_clear_12 : decode cX1_clear 12 = .ok (.iconst 0, 1) := by decide +kernel
theorem dX1_clear_13 : decode cX1_clear 13 = .ok (.invokestatic 29, 3) := by decide +kernel
theorem dX1_clear_16 : decode cX1_clear 16 = .ok (.aload_n 0, 1) := by decide +kernel
theorem dX1_clear_17 : decode cX1_clear 17 = .ok (.iconst 0, 1) := by decide +kernel
theorem dX1_clear_18 : decode cX1_clear 18 = .ok (.putfield 18, 3) := by decide +kernel
theorem dX1_clear_21 : decode cX1_clear 21 = .ok (.aload_n 0, 1) := by decide +kernel
theorem dX1_clear_22 : decode cX1_clear 22 = .ok (.iconst 0, 1) := by decide +kernel
theorem dX1_clear_23 : decode cX1_clear 23 = .ok (.putfield 22, 3) := by decide +kernel
theorem dX1_clear_26 : decode cX1_clear 26 = .ok (.return_, 1) := by decide +kernel
set_option maxRecDepth 20000 in
theorem ggX1_note_X4_isMarked : GoodIn wsX1_note wsX4_isMarked := goodIn_r _ [9, 10, 37, 38, 39, 40, 41] (by decide +kernel) (by decide +kernel)
set_option maxRecDepth 20000 in
theorem gX1_note_X4_isMarked : GoodIn wsX1_note (wsV RX1 35 RX4 yX4_isMarked wsX4_isMarked) := goodIn_app (goodIn_of _ (by decide +kernel)) ggX1_note_X4_isMarked
set_option maxRecDepth 20000 in
theorem ggX1_note_X4_fragmentValue : GoodIn wsX1_note wsX4_fragmentValue := goodIn_r _ [14, 15, 37, 38, 39, 40, 41] (by decide +kernel) (by decide +kernel)
set_option maxRecDepth 20000 in
theorem gX1_note_X4_fragmentValue : GoodIn wsX1_note (wsV RX1 41 RX4 yX4_fragmentValue wsX4_fragmentValue) := goodIn_app (goodIn_of _ (by decide +kernel)) ggX1_note_X4_fragmentValue
set_option maxRecDepth 20000 in
theorem ggX1_note_X4_distance : GoodIn wsX1_note wsX4_distance := goodIn_r _ [19, 20, 37, 38, 39, 40, 41] (by decide +kernel) (by decide +kernel)
set_option maxRecDepth 20000 in
theorem gX1_note_X4_distance : GoodIn wsX1_note (wsV RX1 45 RX4 yX4_distance wsX4_distance) := goodIn_app (goodIn_of _ (by decide +kernel)) ggX1_note_X4_distance
set_option maxRecDepth 20000 in
theorem ggX1_note_X4_offset : GoodIn wsX1_note wsX4_offset := goodIn_r _ [24, 25, 37, 38, 39, 40, 41] (by decide +kernel) (by decide +kernel)
set_option maxRecDepth 20000 in
theorem gX1_note_X4_offset : GoodIn wsX1_note (wsV RX1 48 RX4 yX4_offset wsX4_offset) := goodIn_app (goodIn_of _ (by decide +kernel)) ggX1_note_X4_offset
set_option maxRecDepth 20000 in
theorem ggX1_note_X1_countPlace : GoodIn wsX1_note wsX1_countPlace := goodIn_r _ [29, 30, 31, 28, 32] (by decide +kernel) (by decide +kernel)
set_option maxRecDepth 20000 in
theorem gX1_note_X1_countPlace : GoodIn wsX1_note (va_wsS RX1 51 yX1_countPlace wsX1_countPlace) := goodIn_app (goodIn_of _ (by decide +kernel)) ggX1_note_X1_countPlace
set_option maxRecDepth 20000 in
theorem ggX1_note_X1_setPlace : GoodIn wsX1_note wsX1_setPlace := goodIn_r _ [32] (by decide +kernel) (by decide +kernel)
set_option maxRecDepth 20000 in
theorem gX1_note_X1_setPlace : GoodIn wsX1_note (va_wsS RX1 25 yX1_setPlace wsX1_setPlace) := goodIn_app (goodIn_of _ (by decide +kernel)) ggX1_note_X1_setPlace
theorem dX1_note_0 : decode cX1_note 0 = .ok (.aload_n 1, 1) := by decide +kernel
theorem dX1_note_1 : decode cX1_note 1 = .ok (.ifnonnull 4, 3) := by decide +kernel
theorem dX1_note_4 : decode cX1_note 4 = .ok (.return_, 1) := by decide +kernel
theorem dX1_note_5 : decode cX1_note 5 = .ok (.aload_n 1, 1) := by decide +kernel
theorem dX1_note_6 : decode cX1_note 6 = .ok (.invokevirtual 35, 3) := by decide +kernel
theorem dX1_note_9 : decode cX1_note 9 = .ok (.ifCond .ne 14, 3) := by decide +kernel
theorem dX1_note_12 : decode cX1_note 12 = .ok (.aload_n 0, 1) := by decide +kernel
theorem dX1_note_13 : decode cX1_note 13 = .ok (.dup, 1) := by decide +kernel
theorem dX1_note_14 : decode cX1_note 14 = .ok (.getfield 18, 3) := by decide +kernel
theorem dX1_note_17 : decode cX1_note 17 = .ok (.iconst 1, 1) := by decide +kernel
theorem dX1_note_18 : decode cX1_note 18 = .ok (.iadd, 1) := by decide +kernel
theorem dX1_note_19 : decode cX1_note 19 = .ok (.putfield 18, 3) := by decide +kernel
theorem dX1_note_22 : decode cX1_note 22 = .ok (.return_, 1) := by decide +kernel
theorem dX1_note_23 : decode cX1_note 23 = .ok (.aload_n 1, 1) := by decide +kernel
theorem dX1_note_24 : decode cX1_note 24 = .ok (.invokevirtual 41, 3) := by decide +kernel
theorem dX1_note_27 : decode cX1_note 27 = .ok (.istore_n 2, 1) := by decide +kernel
theorem dX1_note_28 : decode cX1_note 28 = .ok (.aload_n 0, 1) := by decide +kernel
theorem dX1_note_29 : decode cX1_note 29 = .ok (.dup, 1) := by decide +kernel
theorem dX1_note_30 : decode cX1_note 30 = .ok (.getfield 22, 3) := by decide +kernel
theorem dX1_note_33 : decode cX1_note 33 = .ok (.iconst 1, 1) := by decide +kernel
theorem dX1_note_34 : decode cX1_note 34 = .ok (.iadd, 1) := by decide +kernel
theorem dX1_note_35 : decode cX1_note 35 = .ok (.putfield 22, 3) := by decide +kernel
theorem dX1_note_38 : decode cX1_note 38 = .ok (.aload_n 0, 1) := by decide +kernel
theorem dX1_note_39 : decode cX1_note 39 = .ok (.getfield 9, 3) := by decide +kernel
theorem dX1_note_42 : decode cX1_note 42 = .ok (.aload_n 1, 1) := by decide +kernel
theorem dX1_note_43 : decode cX1_note 43 = .ok (.invokevirtual 45, 3) := by decide +kernel
theorem dX1_note_46 : decode cX1_note 46 = .ok (.aload_n 1, 1) := by decide +kernel
theorem dX1_note_47 : decode cX1_note 47 = .ok (.invokevirtual 48, 3) := by decide +kernel
theorem dX1_note_50 : decode cX1_note 50 = .ok (.iload_n 2, 1) := by decide +kernel
theorem dX1_note_51 : decode cX1_note 51 = .ok (.invokestatic 51, 3) := by decide +kernel
theorem dX1_note_54 : decode cX1_note 54 = .ok (.dup2, 1) := by decide +kernel
theorem dX1_note_55 : decode cX1_note 55 = .ok (.iaload, 1) := by decide +kernel
theorem dX1_note_56 : decode cX1_note 56 = .ok (.iconst 1, 1) := by decide +kernel
theorem dX1_note_57 : decode cX1_note 57 = .ok (.iadd, 1) := by decide +kernel
theorem dX1_note_58 : decode cX1_note 58 = .ok (.iastore, 1) := by decide +kernel
theorem dX1_note_59 : decode cX1_note 59 = .ok (.aload_n 0, 1) := by decide +kernel
theorem dX1_note_60 : decode cX1_note 60 = .ok (.getfield 15, 3) := by decide +kernel
theorem dX1_note_63 : decode cX1_note 63 = .ok (.aload_n 1, 1) := by decide +kernel
theorem dX1_note_64 : decode cX1_note 64 = .ok (.invokevirtual 45, 3) := by decide +kernel
theorem dX1_note_67 : decode cX1_note 67 = .ok (.aload_n 1, 1) := by decide +kernel
theorem dX1_note_68 : decode cX1_note 68 = .ok (.invokevirtual 48, 3) := by decide +kernel
theorem dX1_note_71 : decode cX1_note 71 = .ok (.invokestatic 25, 3) := by decide +kernel
theorem dX1_note_74 : decode cX1_note 74 = .ok (.dup2, 1) := by decide +kernel
theorem dX1_note_75 : decode cX1_note 75 = .ok (.iaload, 1) := by decide +kernel
theorem dX1_note_76 : decode cX1_note 76 = .ok (.iconst 1, 1) := by decide +kernel
theorem dX1_note_77 : decode cX1_note 77 = .ok (.iload_n 2, 1) := by decide +kernel
theorem dX1_note_78 : decode cX1_note 78 = .ok (.ishl, 1) := by decide +kernel
theorem dX1_note_79 : decode cX1_note 79 = .ok (.ior, 1) := by decide +kernel
theorem dX1_note_80 : decode cX1_note 80 = .ok (.iastore, 1) := by decide +kernel
theorem dX1_note_81 : decode cX1_note 81 = .ok (.return_, 1) := by decide +kernel
theorem dX1_received_0 : decode cX1_received 0 = .ok (.aload_n 0, 1) := by decide +kernel
theorem dX1_received_1 : decode cX1_received 1 = .ok (.getfield 18, 3) := by decide +kernel
theorem dX1_received_4 : decode cX1_received 4 = .ok (.aload_n 0, 1) := by decide +kernel
theorem dX1_received_5 : decode cX1_received 5 = .ok (.getfield 22, 3) := by decide +kernel
theorem dX1_received_8 : decode cX1_received 8 = .ok (.iadd, 1) := by decide +kernel
theorem dX1_received_9 : decode cX1_received 9 = .ok (.ireturn, 1) := by decide +kernel
theorem dX1_unmarked_0 : decode cX1_unmarked 0 = .ok (.aload_n 0, 1) := by decide +kernel
theorem dX1_unmarked_1 : decode cX1_unmarked 1 = .ok (.getfield 18, 3) := by decide +kernel
theorem dX1_unmarked_4 : decode cX1_unmarked 4 = .ok (.ireturn, 1) := by decide +kernel
set_option maxRecDepth 20000 in
theorem ggX1_countOf_X1_countPlace : GoodIn wsX1_countOf wsX1_countPlace := goodIn_r _ [5, 6, 7, 4, 8] (by decide +kernel) (by decide +kernel)
set_option maxRecDepth 20000 in
theorem gX1_countOf_X1_countPlace : GoodIn wsX1_countOf (va_wsS RX1 51 yX1_countPlace wsX1_countPlace) := goodIn_app (goodIn_of _ (by decide +kernel)) ggX1_countOf_X1_countPlace
theorem dX1_countOf_0 : decode cX1_countOf 0 = .ok (.aload_n 0, 1) := by decide +kernel
theorem dX1_countOf_1 : decode cX1_countOf 1 = .ok (.getfield 9, 3) := by decide +kernel
theorem dX1_countOf_4 : decode cX1_countOf 4 = .ok (.iload_n 1, 1) := by decide +kernel
theorem dX1_countOf_5 : decode cX1_countOf 5 = .ok (.iload_n 2, 1) := by decide +kernel
theorem dX1_countOf_6 : decode cX1_countOf 6 = .ok (.iload_n 3, 1) := by decide +kernel
theorem dX1_countOf_7 : decode cX1_countOf 7 = .ok (.invokestatic 51, 3) := by decide +kernel
theorem dX1_countOf_10 : decode cX1_countOf 10 = .ok (.iaload, 1) := by decide +kernel
theorem dX1_countOf_11 : decode cX1_countOf 11 = .ok (.ireturn, 1) := by decide +kernel
set_option maxRecDepth 20000 in
theorem ggX1_countAt_X1_countOf : GoodIn wsX1_countAt wsX1_countOf := goodIn_r _ [5, 6, 7, 8, 4, 9, 10, 11, 12, 13, 14, 15, 16] (by decide +kernel) (by decide +kernel)
set_option maxRecDepth 20000 in
theorem gX1_countAt_X1_countOf : GoodIn wsX1_countAt (wsV RX1 55 RX1 yX1_countOf wsX1_countOf) := goodIn_app (goodIn_of _ (by decide +kernel)) ggX1_countAt_X1_countOf
theorem dX1_countAt_0 : decode cX1_countAt 0 = .ok (.iconst 0, 1) := by decide +kernel
theorem dX1_countAt_1 : decode cX1_countAt 1 = .ok (.istore_n 2, 1) := by decide +kernel
theorem dX1_countAt_2 : decode cX1_countAt 2 = .ok (.iconst 0, 1) := by decide +kernel
theorem dX1_countAt_3 : decode cX1_countAt 3 = .ok (.istore_n 3, 1) := by decide +kernel
theorem dX1_countAt_4 : decode cX1_countAt 4 = .ok (.iload_n 3, 1) := by decide +kernel
theorem dX1_countAt_5 : decode cX1_countAt 5 = .ok (.iconst 4, 1) := by decide +kernel
theorem dX1_countAt_6 : decode cX1_countAt 6 = .ok (.if_icmp .ge 36, 3) := by decide +kernel
theorem dX1_countAt_9 : decode cX1_countAt 9 = .ok (.iconst 0, 1) := by decide +kernel
theorem dX1_countAt_10 : decode cX1_countAt 10 = .ok (.istore 4, 2) := by decide +kernel
theorem dX1_countAt_12 : decode cX1_countAt 12 = .ok (.iload 4, 2) := by decide +kernel
theorem dX1_countAt_14 : decode cX1_countAt 14 = .ok (.bipush 32, 2) := by decide +kernel
theorem dX1_countAt_16 : decode cX1_countAt 16 = .ok (.if_icmp .ge 20, 3) := by decide +kernel
theorem dX1_countAt_19 : decode cX1_countAt 19 = .ok (.iload_n 2, 1) := by decide +kernel
theorem dX1_countAt_20 : decode cX1_countAt 20 = .ok (.aload_n 0, 1) := by decide +kernel
theorem dX1_countAt_21 : decode cX1_countAt 21 = .ok (.iload_n 1, 1) := by decide +kernel
theorem dX1_countAt_22 : decode cX1_countAt 22 = .ok (.iload_n 3, 1) := by decide +kernel
theorem dX1_countAt_23 : decode cX1_countAt 23 = .ok (.iload 4, 2) := by decide +kernel
theorem dX1_countAt_25 : decode cX1_countAt 25 = .ok (.invokevirtual 55, 3) := by decide +kernel
theorem dX1_countAt_28 : decode cX1_countAt 28 = .ok (.iadd, 1) := by decide +kernel
theorem dX1_countAt_29 : decode cX1_countAt 29 = .ok (.istore_n 2, 1) := by decide +kernel
theorem dX1_countAt_30 : decode cX1_countAt 30 = .ok (.iinc 4 1, 3) := by decide +kernel
theorem dX1_countAt_33 : decode cX1_countAt 33 = .ok (.goto (-21), 3) := by decide +kernel
theorem dX1_countAt_36 : decode cX1_countAt 36 = .ok (.iinc 3 1, 3) := by decide +kernel
theorem dX1_countAt_39 : decode cX1_countAt 39 = .ok (.goto (-35), 3) := by decide +kernel
theorem dX1_countAt_42 : decode cX1_countAt 42 = .ok (.iload_n 2, 1) := by decide +kernel
theorem dX1_countAt_43 : decode cX1_countAt 43 = .ok (.ireturn, 1) := by decide +kernel
set_option maxRecDepth 20000 in
theorem ggX1_hasDistance_X1_setPlace : GoodIn wsX1_hasDistance wsX1_setPlace := goodIn_r _ [5] (by decide +kernel) (by decide +kernel)
set_option maxRecDepth 20000 in
theorem gX1_hasDistance_X1_setPlace : GoodIn wsX1_hasDistance (va_wsS RX1 25 yX1_setPlace wsX1_setPlace) := goodIn_app (goodIn_of _ (by decide +kernel)) ggX1_hasDistance_X1_setPlace
theorem dX1_hasDistance_0 : decode cX1_hasDistance 0 = .ok (.iconst 0, 1) := by decide +kernel
theorem dX1_hasDistance_1 : decode cX1_hasDistance 1 = .ok (.istore_n 2, 1) := by decide +kernel
theorem dX1_hasDistance_2 : decode cX1_hasDistance 2 = .ok (.iload_n 2, 1) := by decide +kernel
theorem dX1_hasDistance_3 : decode cX1_hasDistance 3 = .ok (.iconst 4, 1) := by decide +kernel
theorem dX1_hasDistance_4 : decode cX1_hasDistance 4 = .ok (.if_icmp .ge 24, 3) := by decide +kernel
theorem dX1_hasDistance_7 : decode cX1_hasDistance 7 = .ok (.aload_n 0, 1) := by decide +kernel
theorem dX1_hasDistance_8 : decode cX1_hasDistance 8 = .ok (.getfield 15, 3) := by decide +kernel
theorem dX1_hasDistance_11 : decode cX1_hasDistance 11 = .ok (.iload_n 1, 1) := by decide +kernel
theorem dX1_hasDistance_12 : decode cX1_hasDistance 12 = .ok (.iload_n 2, 1) := by decide +kernel
theorem dX1_hasDistance_13 : decode cX1_hasDistance 13 = .ok (.invokestatic 25, 3) := by decide +kernel
theorem dX1_hasDistance_16 : decode cX1_hasDistance 16 = .ok (.iaload, 1) := by decide +kernel
theorem dX1_hasDistance_17 : decode cX1_hasDistance 17 = .ok (.ifCond .eq 5, 3) := by decide +kernel
theorem dX1_hasDistance_20 : decode cX1_hasDistance 20 = .ok (.iconst 1, 1) := by decide +kernel
theorem dX1_hasDistance_21 : decode cX1_hasDistance 21 = .ok (.ireturn, 1) := by decide +kernel
theorem dX1_hasDistance_22 : decode cX1_hasDistance 22 = .ok (.iinc 2 1, 3) := by decide +kernel
theorem dX1_hasDistance_25 : decode cX1_hasDistance 25 = .ok (.goto (-23), 3) := by decide +kernel
theorem dX1_hasDistance_28 : decode cX1_hasDistance 28 = .ok (.iconst 0, 1) := by decide +kernel
theorem dX1_hasDistance_29 : decode cX1_hasDistance 29 = .ok (.ireturn, 1) := by decide +kernel
set_option maxRecDepth 20000 in
theorem ggX1_differentFragments_X1_setPlace : GoodIn wsX1_differentFragments wsX1_setPlace := goodIn_r _ [5] (by decide +kernel) (by decide +kernel)
set_option maxRecDepth 20000 in
theorem gX1_differentFragments_X1_setPlace : GoodIn wsX1_differentFragments (va_wsS RX1 25 yX1_setPlace wsX1_setPlace) := goodIn_app (goodIn_of _ (by decide +kernel)) ggX1_differentFragments_X1_setPlace
set_option maxRecDepth 20000 in
theorem ggX1_differentFragments_J6_bitCount_0f7a4 : GoodIn wsX1_differentFragments wsJ6_bitCount_0f7a4 := goodIn_r _ [9, 10, 11, 12] (by decide +kernel) (by decide +kernel)
set_option maxRecDepth 20000 in
theorem gX1_differentFragments_J6_bitCount_0f7a4 : GoodIn wsX1_differentFragments (va_wsS RX1 58 yJ6_bitCount_0f7a4 wsJ6_bitCount_0f7a4) := goodIn_app (goodIn_of _ (by decide +kernel)) ggX1_differentFragments_J6_bitCount_0f7a4
theorem dX1_differentFragments_0 : decode cX1_differentFragments 0 = .ok (.aload_n 0, 1) := by decide +kernel
theorem dX1_differentFragments_1 : decode cX1_differentFragments 1 = .ok (.getfield 15, 3) := by decide +kernel
theorem dX1_differentFragments_4 : decode cX1_differentFragments 4 = .ok (.iload_n 1, 1) := by decide +kernel
theorem dX1_differentFragments_5 : decode cX1_differentFragments 5 = .ok (.iload_n 2, 1) := by decide +kernel
theorem dX1_differentFragments_6 : decode cX1_differentFragments 6 = .ok (.invokestatic 25, 3) := by decide +kernel
theorem dX1_differentFragments_9 : decode cX1_differentFragments 9 = .ok (.iaload, 1) := by decide +kernel
theorem dX1_differentFragments_10 : decode cX1_differentFragments 10 = .ok (.invokestatic 58, 3) := by decide +kernel
theorem dX1_differentFragments_13 : decode cX1_differentFragments 13 = .ok (.ireturn, 1) := by decide +kernel
set_option maxRecDepth 20000 in
theorem ggX1_combinations_X1_differentFragments : GoodIn wsX1_combinations wsX1_differentFragments := goodIn_r _ [5, 6, 7, 8, 4, 9, 10, 11, 12, 13, 14, 15, 16, 17, 18, 19, 20] (by decide +kernel) (by decide +kernel)
set_option maxRecDepth 20000 in
theorem gX1_combinations_X1_differentFragments : GoodIn wsX1_combinations (wsV RX1 64 RX1 yX1_differentFragments wsX1_differentFragments) := goodIn_app (goodIn_of _ (by decide +kernel)) ggX1_combinations_X1_differentFragments
theorem dX1_combinations_0 : decode cX1_combinations 0 = .ok (.iconst 1, 1) := by decide +kernel
theorem dX1_combinations_1 : decode cX1_combinations 1 = .ok (.istore_n 2, 1) := by decide +kernel
theorem dX1_combinations_2 : decode cX1_combinations 2 = .ok (.iconst 0, 1) := by decide +kernel
theorem dX1_combinations_3 : decode cX1_combinations 3 = .ok (.istore_n 3, 1) := by decide +kernel
theorem dX1_combinations_4 : decode cX1_combinations 4 = .ok (.iload_n 3, 1) := by decide +kernel
theorem dX1_combinations_5 : decode cX1_combinations 5 = .ok (.iconst 4, 1) := by decide +kernel
theorem dX1_combinations_6 : decode cX1_combinations 6 = .ok (.if_icmp .ge 18, 3) := by decide +kernel
theorem dX1_combinations_9 : decode cX1_combinations 9 = .ok (.iload_n 2, 1) := by decide +kernel
theorem dX1_combinations_10 : decode cX1_combinations 10 = .ok (.aload_n 0, 1) := by decide +kernel
theorem dX1_combinations_11 : decode cX1_combinations 11 = .ok (.iload_n 1, 1) := by decide +kernel
theorem dX1_combinations_12 : decode cX1_combinations 12 = .ok (.iload_n 3, 1) := by decide +kernel
theorem dX1_combinations_13 : decode cX1_combinations 13 = .ok (.invokevirtual 64, 3) := by decide +kernel
theorem dX1_combinations_16 : decode cX1_combinations 16 = .ok (.imul, 1) := by decide +kernel
theorem dX1_combinations_17 : decode cX1_combinations 17 = .ok (.istore_n 2, 1) := by decide +kernel
theorem dX1_combinations_18 : decode cX1_combinations 18 = .ok (.iinc 3 1, 3) := by decide +kernel
theorem dX1_combinations_21 : decode cX1_combinations 21 = .ok (.goto (-17), 3) := by decide +kernel
theorem dX1_combinations_24 : decode cX1_combinations 24 = .ok (.iload_n 2, 1) := by decide +kernel
theorem dX1_combinations_25 : decode cX1_combinations 25 = .ok (.ireturn, 1) := by decide +kernel
set_option maxRecDepth 20000 in
theorem ggX1_holdsPart_X1_setPlace : GoodIn wsX1_holdsPart wsX1_setPlace := goodIn_r _ [5] (by decide +kernel) (by decide +kernel)
set_option maxRecDepth 20000 in
theorem gX1_holdsPart_X1_setPlace : GoodIn wsX1_holdsPart (va_wsS RX1 25 yX1_setPlace wsX1_setPlace) := goodIn_app (goodIn_of _ (by decide +kernel)) ggX1_holdsPart_X1_setPlace
set_option maxRecDepth 20000 in
theorem ggX1_holdsPart_X5_fragmentOf : GoodIn wsX1_holdsPart wsX5_fragmentOf := goodIn_r _ [8] (by decide +kernel) (by decide +kernel)
set_option maxRecDepth 20000 in
theorem gX1_holdsPart_X5_fragmentOf_n67 : GoodIn wsX1_holdsPart (wsX5_fragmentOf) := ggX1_holdsPart_X5_fragmentOf
theorem dX1_holdsPart_0 : decode cX1_holdsPart 0 = .ok (.aload_n 0, 1) := by decide +kernel
theorem dX1_holdsPart_1 : decode cX1_holdsPart 1 = .ok (.getfield 15, 3) := by decide +kernel
theorem dX1_holdsPart_4 : decode cX1_holdsPart 4 = .ok (.iload_n 1, 1) := by decide +kernel
theorem dX1_holdsPart_5 : decode cX1_holdsPart 5 = .ok (.iload_n 2, 1) := by decide +kernel
theorem dX1_holdsPart_6 : decode cX1_holdsPart 6 = .ok (.invokestatic 25, 3) := by decide +kernel
theorem dX1_holdsPart_9 : decode cX1_holdsPart 9 = .ok (.iaload, 1) := by decide +kernel
theorem dX1_holdsPart_10 : decode cX1_holdsPart 10 = .ok (.istore 4, 2) := by decide +kernel
theorem dX1_holdsPart_12 : decode cX1_holdsPart 12 = .ok (.iload 4, 2) := by decide +kernel
theorem dX1_holdsPart_14 : decode cX1_holdsPart 14 = .ok (.iload_n 3, 1) := by decide +kernel
theorem dX1_holdsPart_15 : decode cX1_holdsPart 15 = .ok (.iload_n 2, 1) := by decide +kernel
theorem dX1_holdsPart_16 : decode cX1_holdsPart 16 = .ok (.invokestatic 67, 3) := by decide +kernel
theorem dX1_holdsPart_19 : decode cX1_holdsPart 19 = .ok (.iushr, 1) := by decide +kernel
theorem dX1_holdsPart_20 : decode cX1_holdsPart 20 = .ok (.iconst 1, 1) := by decide +kernel
theorem dX1_holdsPart_21 : decode cX1_holdsPart 21 = .ok (.iand, 1) := by decide +kernel
theorem dX1_holdsPart_22 : decode cX1_holdsPart 22 = .ok (.ifCond .eq 7, 3) := by decide +kernel
theorem dX1_holdsPart_25 : decode cX1_holdsPart 25 = .ok (.iconst 1, 1) := by decide +kernel
theorem dX1_holdsPart_26 : decode cX1_holdsPart 26 = .ok (.goto 4, 3) := by decide +kernel
theorem dX1_holdsPart_29 : decode cX1_holdsPart 29 = .ok (.iconst 0, 1) := by decide +kernel
theorem dX1_holdsPart_30 : decode cX1_holdsPart 30 = .ok (.ireturn, 1) := by decide +kernel
set_option maxRecDepth 20000 in
theorem ggX1_holdsWord_X1_holdsPart : GoodIn wsX1_holdsWord wsX1_holdsPart := goodIn_r _ [5, 6, 7, 8, 4, 9, 10, 11, 12, 13, 14, 15, 16] (by decide +kernel) (by decide +kernel)
set_option maxRecDepth 20000 in
theorem gX1_holdsWord_X1_holdsPart : GoodIn wsX1_holdsWord (wsV RX1 70 RX1 yX1_holdsPart wsX1_holdsPart) := goodIn_app (goodIn_of _ (by decide +kernel)) ggX1_holdsWord_X1_holdsPart
theorem dX1_holdsWord_0 : decode cX1_holdsWord 0 = .ok (.iconst 0, 1) := by decide +kernel
theorem dX1_holdsWord_1 : decode cX1_holdsWord 1 = .ok (.istore_n 3, 1) := by decide +kernel
theorem dX1_holdsWord_2 : decode cX1_holdsWord 2 = .ok (.iload_n 3, 1) := by decide +kernel
theorem dX1_holdsWord_3 : decode cX1_holdsWord 3 = .ok (.iconst 4, 1) := by decide +kernel
theorem dX1_holdsWord_4 : decode cX1_holdsWord 4 = .ok (.if_icmp .ge 21, 3) := by decide +kernel
theorem dX1_holdsWord_7 : decode cX1_holdsWord 7 = .ok (.aload_n 0, 1) := by decide +kernel
theorem dX1_holdsWord_8 : decode cX1_holdsWord 8 = .ok (.iload_n 1, 1) := by decide +kernel
theorem dX1_holdsWord_9 : decode cX1_holdsWord 9 = .ok (.iload_n 3, 1) := by decide +kernel
theorem dX1_holdsWord_10 : decode cX1_holdsWord 10 = .ok (.iload_n 2, 1) := by decide +kernel
theorem dX1_holdsWord_11 : decode cX1_holdsWord 11 = .ok (.invokevirtual 70, 3) := by decide +kernel
theorem dX1_holdsWord_14 : decode cX1_holdsWord 14 = .ok (.ifCond .ne 5, 3) := by decide +kernel
theorem dX1_holdsWord_17 : decode cX1_holdsWord 17 = .ok (.iconst 0, 1) := by decide +kernel
theorem dX1_holdsWord_18 : decode cX1_holdsWord 18 = .ok (.ireturn, 1) := by decide +kernel
theorem dX1_holdsWord_19 : decode cX1_holdsWord 19 = .ok (.iinc 3 1, 3) := by decide +kernel
theorem dX1_holdsWord_22 : decode cX1_holdsWord 22 = .ok (.goto (-20), 3) := by decide +kernel
theorem dX1_holdsWord_25 : decode cX1_holdsWord 25 = .ok (.iconst 1, 1) := by decide +kernel
theorem dX1_holdsWord_26 : decode cX1_holdsWord 26 = .ok (.ireturn, 1) := by decide +kernel
theorem dX2_init_0 : decode cX2_init 0 = .ok (.aload_n 0, 1) := by decide +kernel
theorem dX2_init_1 : decode cX2_init 1 = .ok (.invokespecial 3, 3) := by decide +kernel
theorem dX2_init_4 : decode cX2_init 4 = .ok (.aload_n 0, 1) := by decide +kernel
theorem dX2_init_5 : decode cX2_init 5 = .ok (.bipush 20, 2) := by decide +kernel
theorem dX2_init_7 : decode cX2_init 7 = .ok (.newarray .int, 2) := by decide +kernel
theorem dX2_init_9 : decode cX2_init 9 = .ok (.putfield 9, 3) := by decide +kernel
theorem dX2_init_12 : decode cX2_init 12 = .ok (.aload_n 0, 1) := by decide +kernel
theorem dX2_init_13 : decode cX2_init 13 = .ok (.bipush 20, 2) := by decide +kernel
theorem dX2_init_15 : decode cX2_init 15 = .ok (.newarray .int, 2) := by decide +kernel
theorem dX2_init_17 : decode cX2_init 17 = .ok (.putfield 15, 3) := by decide +kernel
theorem dX2_init_20 : decode cX2_init 20 = .ok (.aload_n 0, 1) := by decide +kernel
theorem dX2_init_21 : decode cX2_init 21 = .ok (.bipush 20, 2) := by decide +kernel
theorem dX2_init_23 : decode cX2_init 23 = .ok (.newarray .int, 2) := by decide +kernel
theorem dX2_init_25 : decode cX2_init 25 = .ok (.putfield 18, 3) := by decide +kernel
theorem dX2_init_28 : decode cX2_init 28 = .ok (.aload_n 0, 1) := by decide +kernel
theorem dX2_init_29 : decode cX2_init 29 = .ok (.iconst 0, 1) := by decide +kernel
theorem dX2_init_30 : decode cX2_init 30 = .ok (.putfield 21, 3) := by decide +kernel
theorem dX2_init_33 : decode cX2_init 33 = .ok (.return_, 1) := by decide +kernel
theorem dX2_size_0 : decode cX2_size 0 = .ok (.aload_n 0, 1) := by decide +kernel
theorem dX2_size_1 : decode cX2_size 1 = .ok (.getfield 21, 3) := by decide +kernel
theorem dX2_size_4 : decode cX2_size 4 = .ok (.ireturn, 1) := by decide +kernel
theorem dX2_isEmpty_0 : decode cX2_isEmpty 0 = .ok (.aload_n 0, 1) := by decide +kernel
theorem dX2_isEmpty_1 : decode cX2_isEmpty 1 = .ok (.getfield 21, 3) := by decide +kernel
theorem dX2_isEmpty_4 : decode cX2_isEmpty 4 = .ok (.ifCond .ne 7, 3) := by decide +kernel
theorem dX2_isEmpty_7 : decode cX2_isEmpty 7 = .ok (.iconst 1, 1) := by decide +kernel
theorem dX2_isEmpty_8 : decode cX2_isEmpty 8 = .ok (.goto 4, 3) := by decide +kernel
theorem dX2_isEmpty_11 : decode cX2_isEmpty 11 = .ok (.iconst 0, 1) := by decide +kernel
theorem dX2_isEmpty_12 : decode cX2_isEmpty 12 = .ok (.ireturn, 1) := by decide +kernel
set_option maxRecDepth 20000 in
theorem ggX2_has_X5_isBelow : GoodIn wsX2_has wsX5_isBelow := goodIn_r _ [4] (by decide +kernel) (by decide +kernel)
set_option maxRecDepth 20000 in
theorem gX2_has_X5_isBelow_n25 : GoodIn wsX2_has (wsX5_isBelow) := ggX2_has_X5_isBelow
theorem dX2_has_0 : decode cX2_has 0 = .ok (.iload_n 1, 1) := by decide +kernel
theorem dX2_has_1 : decode cX2_has 1 = .ok (.aload_n 0, 1) := by decide +kernel
theorem dX2_has_2 : decode cX2_has 2 = .ok (.getfield 21, 3) := by decide +kernel
theorem dX2_has_5 : decode cX2_has 5 = .ok (.invokestatic 25, 3) := by decide +kernel
theorem dX2_has_8 : decode cX2_has 8 = .ok (.ifCond .eq 16, 3) := by decide +kernel
theorem dX2_has_11 : decode cX2_has 11 = .ok (.iload_n 1, 1) := by decide +kernel
theorem dX2_has_12 : decode cX2_has 12 = .ok (.bipush 20, 2) := by decide +kernel
theorem dX2_has_14 : decode cX2_has 14 = .ok (.invokestatic 25, 3) := by decide +kernel
theorem dX2_has_17 : decode cX2_has 17 = .ok (.ifCond .eq 7, 3) := by decide +kernel
theorem dX2_has_20 : decode cX2_has 20 = .ok (.iconst 1, 1) := by decide +kernel
theorem dX2_has_21 : decode cX2_has 21 = .ok (.goto 4, 3) := by decide +kernel
theorem dX2_has_24 : decode cX2_has 24 = .ok (.iconst 0, 1) := by decide +kernel
theorem dX2_has_25 : decode cX2_has 25 = .ok (.ireturn, 1) := by decide +kernel
set_option maxRecDepth 20000 in
theorem ggX2_append_X5_isBelow : GoodIn wsX2_append wsX5_isBelow := goodIn_r _ [7] (by decide +kernel) (by decide +kernel)
set_option maxRecDepth 20000 in
theorem gX2_append_X5_isBelow_n25 : GoodIn wsX2_append (wsX5_isBelow) := ggX2_append_X5_isBelow
set_option maxRecDepth 20000 in
theorem ggX2_append_X2_depthOf : GoodIn wsX2_append wsX2_depthOf := goodIn_r _ [12, 3, 13, 14, 15, 11, 16, 1, 5, 6, 7, 17, 18, 19, 20] (by decide +kernel) (by decide +kernel)
set_option maxRecDepth 20000 in
theorem gX2_append_X2_depthOf : GoodIn wsX2_append (wsV RX2 29 RX2 yX2_depthOf wsX2_depthOf) := goodIn_app (goodIn_of _ (by decide +kernel)) ggX2_append_X2_depthOf
theorem dX2_append_0 : decode cX2_append 0 = .ok (.aload_n 0, 1) := by decide +kernel
theorem dX2_append_1 : decode cX2_append 1 = .ok (.getfield 21, 3) := by decide +kernel
theorem dX2_append_4 : decode cX2_append 4 = .ok (.bipush 20, 2) := by decide +kernel
theorem dX2_append_6 : decode cX2_append 6 = .ok (.invokestatic 25, 3) := by decide +kernel
theorem dX2_append_9 : decode cX2_append 9 = .ok (.ifCond .ne 6, 3) := by decide +kernel
theorem dX2_append_12 : decode cX2_append 12 = .ok (.bipush (-4), 2) := by decide +kernel
theorem dX2_append_14 : decode cX2_append 14 = .ok (.ireturn, 1) := by decide +kernel
theorem dX2_append_15 : decode cX2_append 15 = .ok (.aload_n 0, 1) := by decide +kernel
theorem dX2_append_16 : decode cX2_append 16 = .ok (.getfield 21, 3) := by decide +kernel
theorem dX2_append_19 : decode cX2_append 19 = .ok (.istore_n 3, 1) := by decide +kernel
theorem dX2_append_20 : decode cX2_append 20 = .ok (.iload_n 3, 1) := by decide +kernel
theorem dX2_append_21 : decode cX2_append 21 = .ok (.ifCond .ne 7, 3) := by decide +kernel
theorem dX2_append_24 : decode cX2_append 24 = .ok (.iconst 1, 1) := by decide +kernel
theorem dX2_append_25 : decode cX2_append 25 = .ok (.goto 4, 3) := by decide +kernel
theorem dX2_append_28 : decode cX2_append 28 = .ok (.iconst 0, 1) := by decide +kernel
theorem dX2_append_29 : decode cX2_append 29 = .ok (.istore 4, 2) := by decide +kernel
theorem dX2_append_31 : decode cX2_append 31 = .ok (.aload_n 0, 1) := by decide +kernel
theorem dX2_append_32 : decode cX2_append 32 = .ok (.getfield 9, 3) := by decide +kernel
theorem dX2_append_35 : decode cX2_append 35 = .ok (.iload_n 3, 1) := by decide +kernel
theorem dX2_append_36 : decode cX2_append 36 = .ok (.iload 4, 2) := by decide +kernel
theorem dX2_append_38 : decode cX2_append 38 = .ok (.ifCond .eq 7, 3) := by decide +kernel
theorem dX2_append_41 : decode cX2_append 41 = .ok (.iconst (-1), 1) := by decide +kernel
theorem dX2_append_42 : decode cX2_append 42 = .ok (.goto 4, 3) := by decide +kernel
theorem dX2_append_45 : decode cX2_append 45 = .ok (.iload_n 1, 1) := by decide +kernel
theorem dX2_append_46 : decode cX2_append 46 = .ok (.iastore, 1) := by decide +kernel
theorem dX2_append_47 : decode cX2_append 47 = .ok (.aload_n 0, 1) := by decide +kernel
theorem dX2_append_48 : decode cX2_append 48 = .ok (.getfield 18, 3) := by decide +kernel
theorem dX2_append_51 : decode cX2_append 51 = .ok (.iload_n 3, 1) := by decide +kernel
theorem dX2_append_52 : decode cX2_append 52 = .ok (.iload 4, 2) := by decide +kernel
theorem dX2_append_54 : decode cX2_append 54 = .ok (.ifCond .eq 7, 3) := by decide +kernel
theorem dX2_append_57 : decode cX2_append 57 = .ok (.iconst 0, 1) := by decide +kernel
theorem dX2_append_58 : decode cX2_append 58 = .ok (.goto 10, 3) := by decide +kernel
theorem dX2_append_61 : decode cX2_append 61 = .ok (.aload_n 0, 1) := by decide +kernel
theorem dX2_append_62 : decode cX2_append 62 = .ok (.iload_n 1, 1) := by decide +kernel
theorem dX2_append_63 : decode cX2_append 63 = .ok (.invokevirtual 29, 3) := by decide +kernel
theorem dX2_append_66 : decode cX2_append 66 = .ok (.iconst 1, 1) := by decide +kernel
theorem dX2_append_67 : decode cX2_append 67 = .ok (.iadd, 1) := by decide +kernel
theorem dX2_append_68 : decode cX2_append 68 = .ok (.iastore, 1) := by decide +kernel
theorem dX2_append_69 : decode cX2_append 69 = .ok (.aload_n 0, 1) := by decide +kernel
theorem dX2_append_70 : decode cX2_append 70 = .ok (.getfield 15, 3) := by decide +kernel
theorem dX2_append_73 : decode cX2_append 73 = .ok (.iload_n 3, 1) := by decide +kernel
theorem dX2_append_74 : decode cX2_append 74 = .ok (.iload_n 2, 1) := by decide +kernel
theorem dX2_append_75 : decode cX2_append 75 = .ok (.iastore, 1) := by decide +kernel
theorem dX2_append_76 : decode cX2_append 76 = .ok (.aload_n 0, 1) := by decide +kernel
theorem dX2_append_77 : decode cX2_append 77 = .ok (.dup, 1) := by decide +kernel
theorem dX2_append_78 : decode cX2_append 78 = .ok (.getfield 21, 3) := by decide +kernel
theorem dX2_append_81 : decode cX2_append 81 = .ok (.iconst 1, 1) := by decide +kernel
theorem dX2_append_82 : decode cX2_append 82 = .ok (.iadd, 1) := by decide +kernel
theorem dX2_append_83 : decode cX2_append 83 = .ok (.putfield 21, 3) := by decide +kernel
theorem dX2_append_86 : decode cX2_append 86 = .ok (.iload_n 3, 1) := by decide +kernel
theorem dX2_append_87 : decode cX2_append 87 = .ok (.ireturn, 1) := by decide +kernel
theorem dX2_find_0 : decode cX2_find 0 = .ok (.iconst 0, 1) := by decide +kernel
theorem dX2_find_1 : decode cX2_find 1 = .ok (.istore_n 2, 1) := by decide +kernel
theorem dX2_find_2 : decode cX2_find 2 = .ok (.iload_n 2, 1) := by decide +kernel
theorem dX2_find_3 : decode cX2_find 3 = .ok (.aload_n 0, 1) := by decide +kernel
theorem dX2_find_4 : decode cX2_find 4 = .ok (.getfield 21, 3) := by decide +kernel
theorem dX2_find_7 : decode cX2_find 7 = .ok (.if_icmp .ge 27, 3) := by decide +kernel
theorem dX2_find_10 : decode cX2_find 10 = .ok (.iload_n 2, 1) := by decide +kernel
theorem dX2_find_11 : decode cX2_find 11 = .ok (.bipush 20, 2) := by decide +kernel
theorem dX2_find_13 : decode cX2_find 13 = .ok (.if_icmp .ge 21, 3) := by decide +kernel
theorem dX2_find_16 : decode cX2_find 16 = .ok (.aload_n 0, 1) := by decide +kernel
theorem dX2_find_17 : decode cX2_find 17 = .ok (.getfield 15, 3) := by decide +kernel
theorem dX2_find_20 : decode cX2_find 20 = .ok (.iload_n 2, 1) := by decide +kernel
theorem dX2_find_21 : decode cX2_find 21 = .ok (.iaload, 1) := by decide +kernel
theorem dX2_find_22 : decode cX2_find 22 = .ok (.iload_n 1, 1) := by decide +kernel
theorem dX2_find_23 : decode cX2_find 23 = .ok (.if_icmp .ne 5, 3) := by decide +kernel
theorem dX2_find_26 : decode cX2_find 26 = .ok (.iload_n 2, 1) := by decide +kernel
theorem dX2_find_27 : decode cX2_find 27 = .ok (.ireturn, 1) := by decide +kernel
theorem dX2_find_28 : decode cX2_find 28 = .ok (.iinc 2 1, 3) := by decide +kernel
theorem dX2_find_31 : decode cX2_find 31 = .ok (.goto (-29), 3) := by decide +kernel
theorem dX2_find_34 : decode cX2_find 34 = .ok (.iconst (-1), 1) := by decide +kernel
theorem dX2_find_35 : decode cX2_find 35 = .ok (.ireturn, 1) := by decide +kernel
set_option maxRecDepth 20000 in
theorem ggX2_parentOf_X2_has : GoodIn wsX2_parentOf wsX2_has := goodIn_r _ [6, 7, 8, 9, 10, 11, 12, 13, 14] (by decide +kernel) (by decide +kernel)
set_option maxRecDepth 20000 in
theorem gX2_parentOf_X2_has : GoodIn wsX2_parentOf (wsV RX2 33 RX2 yX2_has wsX2_has) := goodIn_app (goodIn_of _ (by decide +kernel)) ggX2_parentOf_X2_has
theorem dX2_parentOf_0 : decode cX2_parentOf 0 = .ok (.aload_n 0, 1) := by decide +kernel
theorem dX2_parentOf_1 : decode cX2_parentOf 1 = .ok (.iload_n 1, 1) := by decide +kernel
theorem dX2_parentOf_2 : decode cX2_parentOf 2 = .ok (.invokevirtual 33, 3) := by decide +kernel
theorem dX2_parentOf_5 : decode cX2_parentOf 5 = .ok (.ifCond .eq 12, 3) := by decide +kernel
theorem dX2_parentOf_8 : decode cX2_parentOf 8 = .ok (.aload_n 0, 1) := by decide +kernel
theorem dX2_parentOf_9 : decode cX2_parentOf 9 = .ok (.getfield 9, 3) := by decide +kernel
theorem dX2_parentOf_12 : decode cX2_parentOf 12 = .ok (.iload_n 1, 1) := by decide +kernel
theorem dX2_parentOf_13 : decode cX2_parentOf 13 = .ok (.iaload, 1) := by decide +kernel
theorem dX2_parentOf_14 : decode cX2_parentOf 14 = .ok (.goto 4, 3) := by decide +kernel
theorem dX2_parentOf_17 : decode cX2_parentOf 17 = .ok (.iconst (-1), 1) := by decide +kernel
theorem dX2_parentOf_18 : decode cX2_parentOf 18 = .ok (.ireturn, 1) := by decide +kernel
set_option maxRecDepth 20000 in
theorem ggX2_addressOf_X2_has : GoodIn wsX2_addressOf wsX2_has := goodIn_r _ [6, 7, 8, 9, 10, 11, 12, 13, 14] (by decide +kernel) (by decide +kernel)
set_option maxRecDepth 20000 in
theorem gX2_addressOf_X2_has : GoodIn wsX2_addressOf (wsV RX2 33 RX2 yX2_has wsX2_has) := goodIn_app (goodIn_of _ (by decide +kernel)) ggX2_addressOf_X2_has
theorem dX2_addressOf_0 : decode cX2_addressOf 0 = .ok (.aload_n 0, 1) := by decide +kernel
theorem dX2_addressOf_1 : decode cX2_addressOf 1 = .ok (.iload_n 1, 1) := by decide +kernel
theorem dX2_addressOf_2 : decode cX2_addressOf 2 = .ok (.invokevirtual 33, 3) := by decide +kernel
theorem dX2_addressOf_5 : decode cX2_addressOf 5 = .ok (.ifCond .eq 12, 3) := by decide +kernel
theorem dX2_addressOf_8 : decode cX2_addressOf 8 = .ok (.aload_n 0, 1) := by decide +kernel
theorem dX2_addressOf_9 : decode cX2_addressOf 9 = .ok (.getfield 15, 3) := by decide +kernel
theorem dX2_addressOf_12 : decode cX2_addressOf 12 = .ok (.iload_n 1, 1) := by decide +kernel
theorem dX2_addressOf_13 : decode cX2_addressOf 13 = .ok (.iaload, 1) := by decide +kernel
theorem dX2_addressOf_14 : decode cX2_addressOf 14 = .ok (.goto 4, 3) := by decide +kernel
theorem dX2_addressOf_17 : decode cX2_addressOf 17 = .ok (.iconst 0, 1) := by decide +kernel
theorem dX2_addressOf_18 : decode cX2_addressOf 18 = .ok (.ireturn, 1) := by decide +kernel
set_option maxRecDepth 20000 in
theorem ggX2_depthOf_X2_has : GoodIn wsX2_depthOf wsX2_has := goodIn_r _ [6, 7, 8, 9, 10, 11, 12, 13, 14] (by decide +kernel) (by decide +kernel)
set_option maxRecDepth 20000 in
theorem gX2_depthOf_X2_has : GoodIn wsX2_depthOf (wsV RX2 33 RX2 yX2_has wsX2_has) := goodIn_app (goodIn_of _ (by decide +kernel)) ggX2_depthOf_X2_has
theorem dX2_depthOf_0 : decode cX2_depthOf 0 = .ok (.aload_n 0, 1) := by decide +kernel
theorem dX2_depthOf_1 : decode cX2_depthOf 1 = .ok (.iload_n 1, 1) := by decide +kernel
theorem dX2_depthOf_2 : decode cX2_depthOf 2 = .ok (.invokevirtual 33, 3) := by decide +kernel
theorem dX2_depthOf_5 : decode cX2_depthOf 5 = .ok (.ifCond .eq 12, 3) := by decide +kernel
theorem dX2_depthOf_8 : decode cX2_depthOf 8 = .ok (.aload_n 0, 1) := by decide +kernel
theorem dX2_depthOf_9 : decode cX2_depthOf 9 = .ok (.getfield 18, 3) := by decide +kernel
theorem dX2_depthOf_12 : decode cX2_depthOf 12 = .ok (.iload_n 1, 1) := by decide +kernel
theorem dX2_depthOf_13 : decode cX2_depthOf 13 = .ok (.iaload, 1) := by decide +kernel
theorem dX2_depthOf_14 : decode cX2_depthOf 14 = .ok (.goto 4, 3) := by decide +kernel
theorem dX2_depthOf_17 : decode cX2_depthOf 17 = .ok (.iconst 0, 1) := by decide +kernel
theorem dX2_depthOf_18 : decode cX2_depthOf 18 = .ok (.ireturn, 1) := by decide +kernel
set_option maxRecDepth 20000 in
theorem ggX2_wordAt_X2_addressOf : GoodIn wsX2_wordAt wsX2_addressOf := goodIn_r _ [5, 6, 7, 8, 9, 4, 10, 11, 12, 13, 14, 20, 21, 22, 23] (by decide +kernel) (by decide +kernel)
set_option maxRecDepth 20000 in
theorem gX2_wordAt_X2_addressOf : GoodIn wsX2_wordAt (wsV RX2 37 RX2 yX2_addressOf wsX2_addressOf) := goodIn_app (goodIn_of _ (by decide +kernel)) ggX2_wordAt_X2_addressOf
set_option maxRecDepth 20000 in
theorem ggX2_wordAt_X5_wordOf : GoodIn wsX2_wordAt wsX5_wordOf := goodIn_r _ [16, 17, 18, 13, 19] (by decide +kernel) (by decide +kernel)
set_option maxRecDepth 20000 in
theorem gX2_wordAt_X5_wordOf_n40 : GoodIn wsX2_wordAt (wsX5_wordOf) := ggX2_wordAt_X5_wordOf
theorem dX2_wordAt_0 : decode cX2_wordAt 0 = .ok (.aload_n 0, 1) := by decide +kernel
theorem dX2_wordAt_1 : decode cX2_wordAt 1 = .ok (.iload_n 1, 1) := by decide +kernel
theorem dX2_wordAt_2 : decode cX2_wordAt 2 = .ok (.invokevirtual 37, 3) := by decide +kernel
theorem dX2_wordAt_5 : decode cX2_wordAt 5 = .ok (.invokestatic 40, 3) := by decide +kernel
theorem dX2_wordAt_8 : decode cX2_wordAt 8 = .ok (.ireturn, 1) := by decide +kernel
set_option maxRecDepth 20000 in
theorem ggX2_trueMarksOf_X2_parentOf : GoodIn wsX2_trueMarksOf wsX2_parentOf := goodIn_r _ [5, 6, 7, 8, 9, 4, 10, 11, 12, 13, 14, 29, 30, 31, 32] (by decide +kernel) (by decide +kernel)
set_option maxRecDepth 20000 in
theorem gX2_trueMarksOf_X2_parentOf : GoodIn wsX2_trueMarksOf (wsV RX2 43 RX2 yX2_parentOf wsX2_parentOf) := goodIn_app (goodIn_of _ (by decide +kernel)) ggX2_trueMarksOf_X2_parentOf
set_option maxRecDepth 20000 in
theorem ggX2_trueMarksOf_X2_has : GoodIn wsX2_trueMarksOf wsX2_has := goodIn_r _ [10, 11, 12, 13, 14, 29, 30, 31, 32] (by decide +kernel) (by decide +kernel)
set_option maxRecDepth 20000 in
theorem gX2_trueMarksOf_X2_has : GoodIn wsX2_trueMarksOf (wsV RX2 33 RX2 yX2_has wsX2_has) := goodIn_app (goodIn_of _ (by decide +kernel)) ggX2_trueMarksOf_X2_has
set_option maxRecDepth 20000 in
theorem ggX2_trueMarksOf_X2_wordAt : GoodIn wsX2_trueMarksOf wsX2_wordAt := goodIn_r _ [18, 19, 20, 21, 4, 22, 23, 7, 8, 9, 10, 11, 12, 13, 14, 24, 25, 26, 27, 28, 29, 30, 31, 32] (by decide +kernel) (by decide +kernel)
set_option maxRecDepth 20000 in
theorem gX2_trueMarksOf_X2_wordAt : GoodIn wsX2_trueMarksOf (wsV RX2 46 RX2 yX2_wordAt wsX2_wordAt) := goodIn_app (goodIn_of _ (by decide +kernel)) ggX2_trueMarksOf_X2_wordAt
theorem dX2_trueMarksOf_0 : decode cX2_trueMarksOf 0 = .ok (.aload_n 0, 1) := by decide +kernel
theorem dX2_trueMarksOf_1 : decode cX2_trueMarksOf 1 = .ok (.iload_n 1, 1) := by decide +kernel
theorem dX2_trueMarksOf_2 : decode cX2_trueMarksOf 2 = .ok (.invokevirtual 43, 3) := by decide +kernel
theorem dX2_trueMarksOf_5 : decode cX2_trueMarksOf 5 = .ok (.istore_n 2, 1) := by decide +kernel
theorem dX2_trueMarksOf_6 : decode cX2_trueMarksOf 6 = .ok (.aload_n 0, 1) := by decide +kernel
theorem dX2_trueMarksOf_7 : decode cX2_trueMarksOf 7 = .ok (.iload_n 2, 1) := by decide +kernel
theorem dX2_trueMarksOf_8 : decode cX2_trueMarksOf 8 = .ok (.invokevirtual 33, 3) := by decide +kernel
theorem dX2_trueMarksOf_11 : decode cX2_trueMarksOf 11 = .ok (.ifCond .eq 17, 3) := by decide +kernel
theorem dX2_trueMarksOf_14 : decode cX2_trueMarksOf 14 = .ok (.aload_n 0, 1) := by decide +kernel
theorem dX2_trueMarksOf_15 : decode cX2_trueMarksOf 15 = .ok (.iload_n 1, 1) := by decide +kernel
theorem dX2_trueMarksOf_16 : decode cX2_trueMarksOf 16 = .ok (.invokevirtual 46, 3) := by decide +kernel
theorem dX2_trueMarksOf_19 : decode cX2_trueMarksOf 19 = .ok (.aload_n 0, 1) := by decide +kernel
theorem dX2_trueMarksOf_20 : decode cX2_trueMarksOf 20 = .ok (.iload_n 2, 1) := by decide +kernel
theorem dX2_trueMarksOf_21 : decode cX2_trueMarksOf 21 = .ok (.invokevirtual 46, 3) := by decide +kernel
theorem dX2_trueMarksOf_24 : decode cX2_trueMarksOf 24 = .ok (.ixor, 1) := by decide +kernel
theorem dX2_trueMarksOf_25 : decode cX2_trueMarksOf 25 = .ok (.goto 8, 3) := by decide +kernel
theorem dX2_trueMarksOf_28 : decode cX2_trueMarksOf 28 = .ok (.aload_n 0, 1) := by decide +kernel
theorem dX2_trueMarksOf_29 : decode cX2_trueMarksOf 29 = .ok (.iload_n 1, 1) := by decide +kernel
theorem dX2_trueMarksOf_30 : decode cX2_trueMarksOf 30 = .ok (.invokevirtual 46, 3) := by decide +kernel
theorem dX2_trueMarksOf_33 : decode cX2_trueMarksOf 33 = .ok (.ireturn, 1) := by decide +kernel
theorem dX3_init_0 : decode cX3_init 0 = .ok (.aload_n 0, 1) := by decide +kernel
theorem dX3_init_1 : decode cX3_init 1 = .ok (.invokespecial 3, 3) := by decide +kernel
theorem dX3_init_4 : decode cX3_init 4 = .ok (.aload_n 0, 1) := by decide +kernel
theorem dX3_init_5 : decode cX3_init 5 = .ok (.bipush 100, 2) := by decide +kernel
theorem dX3_init_7 : decode cX3_init 7 = .ok (.newarray .int, 2) := by decide +kernel
theorem dX3_init_9 : decode cX3_init 9 = .ok (.putfield 9, 3) := by decide +kernel
theorem dX3_init_12 : decode cX3_init 12 = .ok (.aload_n 0, 1) := by decide +kernel
theorem dX3_init_13 : decode cX3_init 13 = .ok (.bipush 100, 2) := by decide +kernel
theorem dX3_init_15 : decode cX3_init 15 = .ok (.newarray .int, 2) := by decide +kernel
theorem dX3_init_17 : decode cX3_init 17 = .ok (.putfield 15, 3) := by decide +kernel
theorem dX3_init_20 : decode cX3_init 20 = .ok (.aload_n 0, 1) := by decide +kernel
theorem dX3_init_21 : decode cX3_init 21 = .ok (.bipush 100, 2) := by decide +kernel
theorem dX3_init_23 : decode cX3_init 23 = .ok (.newarray .int, 2) := by decide +kernel
theorem dX3_init_25 : decode cX3_init 25 = .ok (.putfield 18, 3) := by decide +kernel
theorem dX3_init_28 : decode cX3_init 28 = .ok (.aload_n 0, 1) := by decide +kernel
theorem dX3_init_29 : decode cX3_init 29 = .ok (.iconst 0, 1) := by decide +kernel
theorem dX3_init_30 : decode cX3_init 30 = .ok (.putfield 21, 3) := by decide +kernel
theorem dX3_init_33 : decode cX3_init 33 = .ok (.return_, 1) := by decide +kernel
theorem dX3_clear_0 : decode cX3_clear 0 = .ok (.aload_n 0, 1) := by decide +kernel
theorem dX3_clear_1 : decode cX3_clear 1 = .ok (.iconst 0, 1) := by decide +kernel
theorem dX3_clear_2 : decode cX3_clear 2 = .ok (.putfield 21, 3) := by decide +kernel
theorem dX3_clear_5 : decode cX3_clear 5 = .ok (.return_, 1) := by decide +kernel
theorem dX3_size_0 : decode cX3_size 0 = .ok (.aload_n 0, 1) := by decide +kernel
theorem dX3_size_1 : decode cX3_size 1 = .ok (.getfield 21, 3) := by decide +kernel
theorem dX3_size_4 : decode cX3_size 4 = .ok (.ireturn, 1) := by decide +kernel
set_option maxRecDepth 20000 in
theorem ggX3_has_X5_isBelow : GoodIn wsX3_has wsX5_isBelow := goodIn_r _ [4] (by decide +kernel) (by decide +kernel)
set_option maxRecDepth 20000 in
theorem gX3_has_X5_isBelow_n25 : GoodIn wsX3_has (wsX5_isBelow) := ggX3_has_X5_isBelow
theorem dX3_has_0 : decode cX3_has 0 = .ok (.iload_n 1, 1) := by decide +kernel
theorem dX3_has_1 : decode cX3_has 1 = .ok (.aload_n 0, 1) := by decide +kernel
theorem dX3_has_2 : decode cX3_has 2 = .ok (.getfield 21, 3) := by decide +kernel
theorem dX3_has_5 : decode cX3_has 5 = .ok (.invokestatic 25, 3) := by decide +kernel
theorem dX3_has_8 : decode cX3_has 8 = .ok (.ifCond .eq 16, 3) := by decide +kernel
theorem dX3_has_11 : decode cX3_has 11 = .ok (.iload_n 1, 1) := by decide +kernel
theorem dX3_has_12 : decode cX3_has 12 = .ok (.bipush 100, 2) := by decide +kernel
theorem dX3_has_14 : decode cX3_has 14 = .ok (.invokestatic 25, 3) := by decide +kernel
theorem dX3_has_17 : decode cX3_has 17 = .ok (.ifCond .eq 7, 3) := by decide +kernel
theorem dX3_has_20 : decode cX3_has 20 = .ok (.iconst 1, 1) := by decide +kernel
theorem dX3_has_21 : decode cX3_has 21 = .ok (.goto 4, 3) := by decide +kernel
theorem dX3_has_24 : decode cX3_has 24 = .ok (.iconst 0, 1) := by decide +kernel
theorem dX3_has_25 : decode cX3_has 25 = .ok (.ireturn, 1) := by decide +kernel
set_option maxRecDepth 20000 in
theorem ggX3_append_X5_isBelow : GoodIn wsX3_append wsX5_isBelow := goodIn_r _ [7] (by decide +kernel) (by decide +kernel)
set_option maxRecDepth 20000 in
theorem gX3_append_X5_isBelow_n25 : GoodIn wsX3_append (wsX5_isBelow) := ggX3_append_X5_isBelow
theorem dX3_append_0 : decode cX3_append 0 = .ok (.aload_n 0, 1) := by decide +kernel
theorem dX3_append_1 : decode cX3_append 1 = .ok (.getfield 21, 3) := by decide +kernel
theorem dX3_append_4 : decode cX3_append 4 = .ok (.bipush 100, 2) := by decide +kernel
theorem dX3_append_6 : decode cX3_append 6 = .ok (.invokestatic 25, 3) := by decide +kernel
theorem dX3_append_9 : decode cX3_append 9 = .ok (.ifCond .ne 5, 3) := by decide +kernel
theorem dX3_append_12 : decode cX3_append 12 = .ok (.iconst 0, 1) := by decide +kernel
theorem dX3_append_13 : decode cX3_append 13 = .ok (.ireturn, 1) := by decide +kernel
theorem dX3_append_14 : decode cX3_append 14 = .ok (.aload_n 0, 1) := by decide +kernel
theorem dX3_append_15 : decode cX3_append 15 = .ok (.getfield 9, 3) := by decide +kernel
theorem dX3_append_18 : decode cX3_append 18 = .ok (.aload_n 0, 1) := by decide +kernel
theorem dX3_append_19 : decode cX3_append 19 = .ok (.getfield 21, 3) := by decide +kernel
theorem dX3_append_22 : decode cX3_append 22 = .ok (.iload_n 1, 1) := by decide +kernel
theorem dX3_append_23 : decode cX3_append 23 = .ok (.iastore, 1) := by decide +kernel
theorem dX3_append_24 : decode cX3_append 24 = .ok (.aload_n 0, 1) := by decide +kernel
theorem dX3_append_25 : decode cX3_append 25 = .ok (.getfield 15, 3) := by decide +kernel
theorem dX3_append_28 : decode cX3_append 28 = .ok (.aload_n 0, 1) := by decide +kernel
theorem dX3_append_29 : decode cX3_append 29 = .ok (.getfield 21, 3) := by decide +kernel
theorem dX3_append_32 : decode cX3_append 32 = .ok (.iload_n 2, 1) := by decide +kernel
theorem dX3_append_33 : decode cX3_append 33 = .ok (.iastore, 1) := by decide +kernel
theorem dX3_append_34 : decode cX3_append 34 = .ok (.aload_n 0, 1) := by decide +kernel
theorem dX3_append_35 : decode cX3_append 35 = .ok (.getfield 18, 3) := by decide +kernel
theorem dX3_append_38 : decode cX3_append 38 = .ok (.aload_n 0, 1) := by decide +kernel
theorem dX3_append_39 : decode cX3_append 39 = .ok (.getfield 21, 3) := by decide +kernel
theorem dX3_append_42 : decode cX3_append 42 = .ok (.iload_n 3, 1) := by decide +kernel
theorem dX3_append_43 : decode cX3_append 43 = .ok (.iastore, 1) := by decide +kernel
theorem dX3_append_44 : decode cX3_append 44 = .ok (.aload_n 0, 1) := by decide +kernel
theorem dX3_append_45 : decode cX3_append 45 = .ok (.dup, 1) := by decide +kernel
theorem dX3_append_46 : decode cX3_append 46 = .ok (.getfield 21, 3) := by decide +kernel
theorem dX3_append_49 : decode cX3_append 49 = .ok (.iconst 1, 1) := by decide +kernel
theorem dX3_append_50 : decode cX3_append 50 = .ok (.iadd, 1) := by decide +kernel
theorem dX3_append_51 : decode cX3_append 51 = .ok (.putfield 21, 3) := by decide +kernel
theorem dX3_append_54 : decode cX3_append 54 = .ok (.iconst 1, 1) := by decide +kernel
theorem dX3_append_55 : decode cX3_append 55 = .ok (.ireturn, 1) := by decide +kernel
set_option maxRecDepth 20000 in
theorem ggX3_addressOf_X3_has : GoodIn wsX3_addressOf wsX3_has := goodIn_r _ [6, 7, 8, 9, 10, 11, 12, 13, 14] (by decide +kernel) (by decide +kernel)
set_option maxRecDepth 20000 in
theorem gX3_addressOf_X3_has : GoodIn wsX3_addressOf (wsV RX3 29 RX3 yX3_has wsX3_has) := goodIn_app (goodIn_of _ (by decide +kernel)) ggX3_addressOf_X3_has
theorem dX3_addressOf_0 : decode cX3_addressOf 0 = .ok (.aload_n 0, 1) := by decide +kernel
theorem dX3_addressOf_1 : decode cX3_addressOf 1 = .ok (.iload_n 1, 1) := by decide +kernel
theorem dX3_addressOf_2 : decode cX3_addressOf 2 = .ok (.invokevirtual 29, 3) := by decide +kernel
theorem dX3_addressOf_5 : decode cX3_addressOf 5 = .ok (.ifCond .eq 12, 3) := by decide +kernel
theorem dX3_addressOf_8 : decode cX3_addressOf 8 = .ok (.aload_n 0, 1) := by decide +kernel
theorem dX3_addressOf_9 : decode cX3_addressOf 9 = .ok (.getfield 9, 3) := by decide +kernel
theorem dX3_addressOf_12 : decode cX3_addressOf 12 = .ok (.iload_n 1, 1) := by decide +kernel
theorem dX3_addressOf_13 : decode cX3_addressOf 13 = .ok (.iaload, 1) := by decide +kernel
theorem dX3_addressOf_14 : decode cX3_addressOf 14 = .ok (.goto 4, 3) := by decide +kernel
theorem dX3_addressOf_17 : decode cX3_addressOf 17 = .ok (.iconst 0, 1) := by decide +kernel
theorem dX3_addressOf_18 : decode cX3_addressOf 18 = .ok (.ireturn, 1) := by decide +kernel
set_option maxRecDepth 20000 in
theorem ggX3_distanceOf_X3_has : GoodIn wsX3_distanceOf wsX3_has := goodIn_r _ [6, 7, 8, 9, 10, 11, 12, 13, 14] (by decide +kernel) (by decide +kernel)
set_option maxRecDepth 20000 in
theorem gX3_distanceOf_X3_has : GoodIn wsX3_distanceOf (wsV RX3 29 RX3 yX3_has wsX3_has) := goodIn_app (goodIn_of _ (by decide +kernel)) ggX3_distanceOf_X3_has
theorem dX3_distanceOf_0 : decode cX3_distanceOf 0 = .ok (.aload_n 0, 1) := by decide +kernel
theorem dX3_distanceOf_1 : decode cX3_distanceOf 1 = .ok (.iload_n 1, 1) := by decide +kernel
theorem dX3_distanceOf_2 : decode cX3_distanceOf 2 = .ok (.invokevirtual 29, 3) := by decide +kernel
theorem dX3_distanceOf_5 : decode cX3_distanceOf 5 = .ok (.ifCond .eq 12, 3) := by decide +kernel
theorem dX3_distanceOf_8 : decode cX3_distanceOf 8 = .ok (.aload_n 0, 1) := by decide +kernel
theorem dX3_distanceOf_9 : decode cX3_distanceOf 9 = .ok (.getfield 15, 3) := by decide +kernel
theorem dX3_distanceOf_12 : decode cX3_distanceOf 12 = .ok (.iload_n 1, 1) := by decide +kernel
theorem dX3_distanceOf_13 : decode cX3_distanceOf 13 = .ok (.iaload, 1) := by decide +kernel
theorem dX3_distanceOf_14 : decode cX3_distanceOf 14 = .ok (.goto 4, 3) := by decide +kernel
theorem dX3_distanceOf_17 : decode cX3_distanceOf 17 = .ok (.iconst 0, 1) := by decide +kernel
theorem dX3_distanceOf_18 : decode cX3_distanceOf 18 = .ok (.ireturn, 1) := by decide +kernel
set_option maxRecDepth 20000 in
theorem ggX3_parentOf_X3_has : GoodIn wsX3_parentOf wsX3_has := goodIn_r _ [6, 7, 8, 9, 10, 11, 12, 13, 14] (by decide +kernel) (by decide +kernel)
set_option maxRecDepth 20000 in
theorem gX3_parentOf_X3_has : GoodIn wsX3_parentOf (wsV RX3 29 RX3 yX3_has wsX3_has) := goodIn_app (goodIn_of _ (by decide +kernel)) ggX3_parentOf_X3_has
theorem dX3_parentOf_0 : decode cX3_parentOf 0 = .ok (.aload_n 0, 1) := by decide +kernel
theorem dX3_parentOf_1 : decode cX3_parentOf 1 = .ok (.iload_n 1, 1) := by decide +kernel
theorem dX3_parentOf_2 : decode cX3_parentOf 2 = .ok (.invokevirtual 29, 3) := by decide +kernel
theorem dX3_parentOf_5 : decode cX3_parentOf 5 = .ok (.ifCond .eq 12, 3) := by decide +kernel
theorem dX3_parentOf_8 : decode cX3_parentOf 8 = .ok (.aload_n 0, 1) := by decide +kernel
theorem dX3_parentOf_9 : decode cX3_parentOf 9 = .ok (.getfield 18, 3) := by decide +kernel
theorem dX3_parentOf_12 : decode cX3_parentOf 12 = .ok (.iload_n 1, 1) := by decide +kernel
theorem dX3_parentOf_13 : decode cX3_parentOf 13 = .ok (.iaload, 1) := by decide +kernel
theorem dX3_parentOf_14 : decode cX3_parentOf 14 = .ok (.goto 5, 3) := by decide +kernel
theorem dX3_parentOf_17 : decode cX3_parentOf 17 = .ok (.bipush (-7), 2) := by decide +kernel
theorem dX3_parentOf_19 : decode cX3_parentOf 19 = .ok (.ireturn, 1) := by decide +kernel
theorem dX4_init_0 : decode cX4_init 0 = .ok (.aload_n 0, 1) := by decide +kernel
theorem dX4_init_1 : decode cX4_init 1 = .ok (.invokespecial 3, 3) := by decide +kernel
theorem dX4_init_4 : decode cX4_init 4 = .ok (.aload_n 0, 1) := by decide +kernel
theorem dX4_init_5 : decode cX4_init 5 = .ok (.iconst 0, 1) := by decide +kernel
theorem dX4_init_6 : decode cX4_init 6 = .ok (.putfield 9, 3) := by decide +kernel
theorem dX4_init_9 : decode cX4_init 9 = .ok (.aload_n 0, 1) := by decide +kernel
theorem dX4_init_10 : decode cX4_init 10 = .ok (.iconst 0, 1) := by decide +kernel
theorem dX4_init_11 : decode cX4_init 11 = .ok (.putfield 15, 3) := by decide +kernel
theorem dX4_init_14 : decode cX4_init 14 = .ok (.aload_n 0, 1) := by decide +kernel
theorem dX4_init_15 : decode cX4_init 15 = .ok (.iconst 0, 1) := by decide +kernel
theorem dX4_init_16 : decode cX4_init 16 = .ok (.putfield 18, 3) := by decide +kernel
theorem dX4_init_19 : decode cX4_init 19 = .ok (.aload_n 0, 1) := by decide +kernel
theorem dX4_init_20 : decode cX4_init 20 = .ok (.iconst 0, 1) := by decide +kernel
theorem dX4_init_21 : decode cX4_init 21 = .ok (.putfield 22, 3) := by decide +kernel
theorem dX4_init_24 : decode cX4_init 24 = .ok (.aload_n 0, 1) := by decide +kernel
theorem dX4_init_25 : decode cX4_init 25 = .ok (.iconst 0, 1) := by decide +kernel
theorem dX4_init_26 : decode cX4_init 26 = .ok (.putfield 25, 3) := by decide +kernel
theorem dX4_init_29 : decode cX4_init 29 = .ok (.return_, 1) := by decide +kernel
set_option maxRecDepth 20000 in
theorem ggX4_startUnmarked_X4_putMark : GoodIn wsX4_startUnmarked wsX4_putMark := goodIn_r _ [7, 8, 9, 10, 11, 12, 13, 14, 15] (by decide +kernel) (by decide +kernel)
set_option maxRecDepth 20000 in
theorem gX4_startUnmarked_X4_putMark : GoodIn wsX4_startUnmarked (wsV RX4 28 RX4 yX4_putMark wsX4_putMark) := goodIn_app (goodIn_of _ (by decide +kernel)) ggX4_startUnmarked_X4_putMark
theorem dX4_startUnmarked_0 : decode cX4_startUnmarked 0 = .ok (.aload_n 0, 1) := by decide +kernel
theorem dX4_startUnmarked_1 : decode cX4_startUnmarked 1 = .ok (.iconst 0, 1) := by decide +kernel
theorem dX4_startUnmarked_2 : decode cX4_startUnmarked 2 = .ok (.iconst 0, 1) := by decide +kernel
theorem dX4_startUnmarked_3 : decode cX4_startUnmarked 3 = .ok (.iconst 0, 1) := by decide +kernel
theorem dX4_startUnmarked_4 : decode cX4_startUnmarked 4 = .ok (.invokevirtual 28, 3) := by decide +kernel
theorem dX4_startUnmarked_7 : decode cX4_startUnmarked 7 = .ok (.aload_n 0, 1) := by decide +kernel
theorem dX4_startUnmarked_8 : decode cX4_startUnmarked 8 = .ok (.iconst 0, 1) := by decide +kernel
theorem dX4_startUnmarked_9 : decode cX4_startUnmarked 9 = .ok (.putfield 9, 3) := by decide +kernel
theorem dX4_startUnmarked_12 : decode cX4_startUnmarked 12 = .ok (.aload_n 0, 1) := by decide +kernel
theorem dX4_startUnmarked_13 : decode cX4_startUnmarked 13 = .ok (.iconst 0, 1) := by decide +kernel
theorem dX4_startUnmarked_14 : decode cX4_startUnmarked 14 = .ok (.putfield 15, 3) := by decide +kernel
theorem dX4_startUnmarked_17 : decode cX4_startUnmarked 17 = .ok (.return_, 1) := by decide +kernel
set_option maxRecDepth 20000 in
theorem ggX4_startForged_X4_putMark : GoodIn wsX4_startForged wsX4_putMark := goodIn_r _ [7, 8, 9, 10, 11, 12, 13, 14, 15] (by decide +kernel) (by decide +kernel)
set_option maxRecDepth 20000 in
theorem gX4_startForged_X4_putMark : GoodIn wsX4_startForged (wsV RX4 28 RX4 yX4_putMark wsX4_putMark) := goodIn_app (goodIn_of _ (by decide +kernel)) ggX4_startForged_X4_putMark
theorem dX4_startForged_0 : decode cX4_startForged 0 = .ok (.aload_n 0, 1) := by decide +kernel
theorem dX4_startForged_1 : decode cX4_startForged 1 = .ok (.iload_n 1, 1) := by decide +kernel
theorem dX4_startForged_2 : decode cX4_startForged 2 = .ok (.iload_n 2, 1) := by decide +kernel
theorem dX4_startForged_3 : decode cX4_startForged 3 = .ok (.iload_n 3, 1) := by decide +kernel
theorem dX4_startForged_4 : decode cX4_startForged 4 = .ok (.invokevirtual 28, 3) := by decide +kernel
theorem dX4_startForged_7 : decode cX4_startForged 7 = .ok (.aload_n 0, 1) := by decide +kernel
theorem dX4_startForged_8 : decode cX4_startForged 8 = .ok (.iconst 1, 1) := by decide +kernel
theorem dX4_startForged_9 : decode cX4_startForged 9 = .ok (.putfield 9, 3) := by decide +kernel
theorem dX4_startForged_12 : decode cX4_startForged 12 = .ok (.aload_n 0, 1) := by decide +kernel
theorem dX4_startForged_13 : decode cX4_startForged 13 = .ok (.iconst 0, 1) := by decide +kernel
theorem dX4_startForged_14 : decode cX4_startForged 14 = .ok (.putfield 15, 3) := by decide +kernel
theorem dX4_startForged_17 : decode cX4_startForged 17 = .ok (.return_, 1) := by decide +kernel
set_option maxRecDepth 20000 in
theorem ggX4_takeMark_X4_putMark : GoodIn wsX4_takeMark wsX4_putMark := goodIn_r _ [7, 8, 9, 10, 11, 12, 13, 14, 15] (by decide +kernel) (by decide +kernel)
set_option maxRecDepth 20000 in
theorem gX4_takeMark_X4_putMark : GoodIn wsX4_takeMark (wsV RX4 28 RX4 yX4_putMark wsX4_putMark) := goodIn_app (goodIn_of _ (by decide +kernel)) ggX4_takeMark_X4_putMark
theorem dX4_takeMark_0 : decode cX4_takeMark 0 = .ok (.aload_n 0, 1) := by decide +kernel
theorem dX4_takeMark_1 : decode cX4_takeMark 1 = .ok (.iconst 0, 1) := by decide +kernel
theorem dX4_takeMark_2 : decode cX4_takeMark 2 = .ok (.iload_n 1, 1) := by decide +kernel
theorem dX4_takeMark_3 : decode cX4_takeMark 3 = .ok (.iload_n 2, 1) := by decide +kernel
theorem dX4_takeMark_4 : decode cX4_takeMark 4 = .ok (.invokevirtual 28, 3) := by decide +kernel
theorem dX4_takeMark_7 : decode cX4_takeMark 7 = .ok (.aload_n 0, 1) := by decide +kernel
theorem dX4_takeMark_8 : decode cX4_takeMark 8 = .ok (.iconst 1, 1) := by decide +kernel
theorem dX4_takeMark_9 : decode cX4_takeMark 9 = .ok (.putfield 9, 3) := by decide +kernel
theorem dX4_takeMark_12 : decode cX4_takeMark 12 = .ok (.aload_n 0, 1) := by decide +kernel
theorem dX4_takeMark_13 : decode cX4_takeMark 13 = .ok (.iconst 1, 1) := by decide +kernel
theorem dX4_takeMark_14 : decode cX4_takeMark 14 = .ok (.putfield 15, 3) := by decide +kernel
theorem dX4_takeMark_17 : decode cX4_takeMark 17 = .ok (.return_, 1) := by decide +kernel
theorem dX4_putMark_0 : decode cX4_putMark 0 = .ok (.aload_n 0, 1) := by decide +kernel
theorem dX4_putMark_1 : decode cX4_putMark 1 = .ok (.iload_n 1, 1) := by decide +kernel
theorem dX4_putMark_2 : decode cX4_putMark 2 = .ok (.putfield 18, 3) := by decide +kernel
theorem dX4_putMark_5 : decode cX4_putMark 5 = .ok (.aload_n 0, 1) := by decide +kernel
theorem dX4_putMark_6 : decode cX4_putMark 6 = .ok (.iload_n 2, 1) := by decide +kernel
theorem dX4_putMark_7 : decode cX4_putMark 7 = .ok (.putfield 22, 3) := by decide +kernel
theorem dX4_putMark_10 : decode cX4_putMark 10 = .ok (.aload_n 0, 1) := by decide +kernel
theorem dX4_putMark_11 : decode cX4_putMark 11 = .ok (.iload_n 3, 1) := by decide +kernel
theorem dX4_putMark_12 : decode cX4_putMark 12 = .ok (.putfield 25, 3) := by decide +kernel
theorem dX4_putMark_15 : decode cX4_putMark 15 = .ok (.return_, 1) := by decide +kernel
set_option maxRecDepth 20000 in
theorem ggX4_goOn_X5_fragmentOf : GoodIn wsX4_goOn wsX5_fragmentOf := goodIn_r _ [7] (by decide +kernel) (by decide +kernel)
set_option maxRecDepth 20000 in
theorem gX4_goOn_X5_fragmentOf_n32 : GoodIn wsX4_goOn (wsX5_fragmentOf) := ggX4_goOn_X5_fragmentOf
theorem dX4_goOn_0 : decode cX4_goOn 0 = .ok (.aload_n 0, 1) := by decide +kernel
theorem dX4_goOn_1 : decode cX4_goOn 1 = .ok (.getfield 9, 3) := by decide +kernel
theorem dX4_goOn_4 : decode cX4_goOn 4 = .ok (.ifCond .ne 4, 3) := by decide +kernel
theorem dX4_goOn_7 : decode cX4_goOn 7 = .ok (.return_, 1) := by decide +kernel
theorem dX4_goOn_8 : decode cX4_goOn 8 = .ok (.aload_n 0, 1) := by decide +kernel
theorem dX4_goOn_9 : decode cX4_goOn 9 = .ok (.getfield 18, 3) := by decide +kernel
theorem dX4_goOn_12 : decode cX4_goOn 12 = .ok (.ifCond .ne 20, 3) := by decide +kernel
theorem dX4_goOn_15 : decode cX4_goOn 15 = .ok (.aload_n 0, 1) := by decide +kernel
theorem dX4_goOn_16 : decode cX4_goOn 16 = .ok (.dup, 1) := by decide +kernel
theorem dX4_goOn_17 : decode cX4_goOn 17 = .ok (.getfield 25, 3) := by decide +kernel
theorem dX4_goOn_20 : decode cX4_goOn 20 = .ok (.iload_n 1, 1) := by decide +kernel
theorem dX4_goOn_21 : decode cX4_goOn 21 = .ok (.aload_n 0, 1) := by decide +kernel
theorem dX4_goOn_22 : decode cX4_goOn 22 = .ok (.getfield 22, 3) := by decide +kernel
theorem dX4_goOn_25 : decode cX4_goOn 25 = .ok (.invokestatic 32, 3) := by decide +kernel
theorem dX4_goOn_28 : decode cX4_goOn 28 = .ok (.ixor, 1) := by decide +kernel
theorem dX4_goOn_29 : decode cX4_goOn 29 = .ok (.putfield 25, 3) := by decide +kernel
theorem dX4_goOn_32 : decode cX4_goOn 32 = .ok (.aload_n 0, 1) := by decide +kernel
theorem dX4_goOn_33 : decode cX4_goOn 33 = .ok (.getfield 18, 3) := by decide +kernel
theorem dX4_goOn_36 : decode cX4_goOn 36 = .ok (.bipush 31, 2) := by decide +kernel
theorem dX4_goOn_38 : decode cX4_goOn 38 = .ok (.if_icmp .ge 13, 3) := by decide +kernel
theorem dX4_goOn_41 : decode cX4_goOn 41 = .ok (.aload_n 0, 1) := by decide +kernel
theorem dX4_goOn_42 : decode cX4_goOn 42 = .ok (.dup, 1) := by decide +kernel
theorem dX4_goOn_43 : decode cX4_goOn 43 = .ok (.getfield 18, 3) := by decide +kernel
theorem dX4_goOn_46 : decode cX4_goOn 46 = .ok (.iconst 1, 1) := by decide +kernel
theorem dX4_goOn_47 : decode cX4_goOn 47 = .ok (.iadd, 1) := by decide +kernel
theorem dX4_goOn_48 : decode cX4_goOn 48 = .ok (.putfield 18, 3) := by decide +kernel
theorem dX4_goOn_51 : decode cX4_goOn 51 = .ok (.return_, 1) := by decide +kernel
theorem dX4_isMarked_0 : decode cX4_isMarked 0 = .ok (.aload_n 0, 1) := by decide +kernel
theorem dX4_isMarked_1 : decode cX4_isMarked 1 = .ok (.getfield 9, 3) := by decide +kernel
theorem dX4_isMarked_4 : decode cX4_isMarked 4 = .ok (.ireturn, 1) := by decide +kernel
theorem dX4_isMarkedByRouter_0 : decode cX4_isMarkedByRouter 0 = .ok (.aload_n 0, 1) := by decide +kernel
theorem dX4_isMarkedByRouter_1 : decode cX4_isMarkedByRouter 1 = .ok (.getfield 15, 3) := by decide +kernel
theorem dX4_isMarkedByRouter_4 : decode cX4_isMarkedByRouter 4 = .ok (.ireturn, 1) := by decide +kernel
theorem dX4_distance_0 : decode cX4_distance 0 = .ok (.aload_n 0, 1) := by decide +kernel
theorem dX4_distance_1 : decode cX4_distance 1 = .ok (.getfield 18, 3) := by decide +kernel
theorem dX4_distance_4 : decode cX4_distance 4 = .ok (.ireturn, 1) := by decide +kernel
theorem dX4_offset_0 : decode cX4_offset 0 = .ok (.aload_n 0, 1) := by decide +kernel
theorem dX4_offset_1 : decode cX4_offset 1 = .ok (.getfield 22, 3) := by decide +kernel
theorem dX4_offset_4 : decode cX4_offset 4 = .ok (.ireturn, 1) := by decide +kernel
theorem dX4_fragmentValue_0 : decode cX4_fragmentValue 0 = .ok (.aload_n 0, 1) := by decide +kernel
theorem dX4_fragmentValue_1 : decode cX4_fragmentValue 1 = .ok (.getfield 25, 3) := by decide +kernel
theorem dX4_fragmentValue_4 : decode cX4_fragmentValue 4 = .ok (.ireturn, 1) := by decide +kernel
theorem dJ6_bitCount_0f7a4_0 : decode cJ6_bitCount_0f7a4 0 = .ok (.iload_n 0, 1) := by decide +kernel
theorem dJ6_bitCount_0f7a4_1 : decode cJ6_bitCount_0f7a4 1 = .ok (.iload_n 0, 1) := by decide +kernel
theorem dJ6_bitCount_0f7a4_2 : decode cJ6_bitCount_0f7a4 2 = .ok (.iconst 1, 1) := by decide +kernel
theorem dJ6_bitCount_0f7a4_3 : decode cJ6_bitCount_0f7a4 3 = .ok (.iushr, 1) := by decide +kernel
theorem dJ6_bitCount_0f7a4_4 : decode cJ6_bitCount_0f7a4 4 = .ok (.ldc_w 265, 3) := by decide +kernel
theorem dJ6_bitCount_0f7a4_7 : decode cJ6_bitCount_0f7a4 7 = .ok (.iand, 1) := by decide +kernel
theorem dJ6_bitCount_0f7a4_8 : decode cJ6_bitCount_0f7a4 8 = .ok (.isub, 1) := by decide +kernel
theorem dJ6_bitCount_0f7a4_9 : decode cJ6_bitCount_0f7a4 9 = .ok (.istore_n 0, 1) := by decide +kernel
theorem dJ6_bitCount_0f7a4_10 : decode cJ6_bitCount_0f7a4 10 = .ok (.iload_n 0, 1) := by decide +kernel
theorem dJ6_bitCount_0f7a4_11 : decode cJ6_bitCount_0f7a4 11 = .ok (.ldc_w 266, 3) := by decide +kernel
theorem dJ6_bitCount_0f7a4_14 : decode cJ6_bitCount_0f7a4 14 = .ok (.iand, 1) := by decide +kernel
theorem dJ6_bitCount_0f7a4_15 : decode cJ6_bitCount_0f7a4 15 = .ok (.iload_n 0, 1) := by decide +kernel
theorem dJ6_bitCount_0f7a4_16 : decode cJ6_bitCount_0f7a4 16 = .ok (.iconst 2, 1) := by decide +kernel
theorem dJ6_bitCount_0f7a4_17 : decode cJ6_bitCount_0f7a4 17 = .ok (.iushr, 1) := by decide +kernel
theorem dJ6_bitCount_0f7a4_18 : decode cJ6_bitCount_0f7a4 18 = .ok (.ldc_w 266, 3) := by decide +kernel
theorem dJ6_bitCount_0f7a4_21 : decode cJ6_bitCount_0f7a4 21 = .ok (.iand, 1) := by decide +kernel
theorem dJ6_bitCount_0f7a4_22 : decode cJ6_bitCount_0f7a4 22 = .ok (.iadd, 1) := by decide +kernel
theorem dJ6_bitCount_0f7a4_23 : decode cJ6_bitCount_0f7a4 23 = .ok (.istore_n 0, 1) := by decide +kernel
theorem dJ6_bitCount_0f7a4_24 : decode cJ6_bitCount_0f7a4 24 = .ok (.iload_n 0, 1) := by decide +kernel
theorem dJ6_bitCount_0f7a4_25 : decode cJ6_bitCount_0f7a4 25 = .ok (.iload_n 0, 1) := by decide +kernel
theorem dJ6_bitCount_0f7a4_26 : decode cJ6_bitCount_0f7a4 26 = .ok (.iconst 4, 1) := by decide +kernel
theorem dJ6_bitCount_0f7a4_27 : decode cJ6_bitCount_0f7a4 27 = .ok (.iushr, 1) := by decide +kernel
theorem dJ6_bitCount_0f7a4_28 : decode cJ6_bitCount_0f7a4 28 = .ok (.iadd, 1) := by decide +kernel
theorem dJ6_bitCount_0f7a4_29 : decode cJ6_bitCount_0f7a4 29 = .ok (.ldc_w 267, 3) := by decide +kernel
theorem dJ6_bitCount_0f7a4_32 : decode cJ6_bitCount_0f7a4 32 = .ok (.iand, 1) := by decide +kernel
theorem dJ6_bitCount_0f7a4_33 : decode cJ6_bitCount_0f7a4 33 = .ok (.istore_n 0, 1) := by decide +kernel
theorem dJ6_bitCount_0f7a4_34 : decode cJ6_bitCount_0f7a4 34 = .ok (.iload_n 0, 1) := by decide +kernel
theorem dJ6_bitCount_0f7a4_35 : decode cJ6_bitCount_0f7a4 35 = .ok (.iload_n 0, 1) := by decide +kernel
theorem dJ6_bitCount_0f7a4_36 : decode cJ6_bitCount_0f7a4 36 = .ok (.bipush 8, 2) := by decide +kernel
theorem dJ6_bitCount_0f7a4_38 : decode cJ6_bitCount_0f7a4 38 = .ok (.iushr, 1) := by decide +kernel
theorem dJ6_bitCount_0f7a4_39 : decode cJ6_bitCount_0f7a4 39 = .ok (.iadd, 1) := by decide +kernel
theorem dJ6_bitCount_0f7a4_40 : decode cJ6_bitCount_0f7a4 40 = .ok (.istore_n 0, 1) := by decide +kernel
theorem dJ6_bitCount_0f7a4_41 : decode cJ6_bitCount_0f7a4 41 = .ok (.iload_n 0, 1) := by decide +kernel
theorem dJ6_bitCount_0f7a4_42 : decode cJ6_bitCount_0f7a4 42 = .ok (.iload_n 0, 1) := by decide +kernel
theorem dJ6_bitCount_0f7a4_43 : decode cJ6_bitCount_0f7a4 43 = .ok (.bipush 16, 2) := by decide +kernel
theorem dJ6_bitCount_0f7a4_45 : decode cJ6_bitCount_0f7a4 45 = .ok (.iushr, 1) := by decide +kernel
theorem dJ6_bitCount_0f7a4_46 : decode cJ6_bitCount_0f7a4 46 = .ok (.iadd, 1) := by decide +kernel
theorem dJ6_bitCount_0f7a4_47 : decode cJ6_bitCount_0f7a4 47 = .ok (.istore_n 0, 1) := by decide +kernel
theorem dJ6_bitCount_0f7a4_48 : decode cJ6_bitCount_0f7a4 48 = .ok (.iload_n 0, 1) := by decide +kernel
theorem dJ6_bitCount_0f7a4_49 : decode cJ6_bitCount_0f7a4 49 = .ok (.bipush 63, 2) := by decide +kernel
theorem dJ6_bitCount_0f7a4_51 : decode cJ6_bitCount_0f7a4 51 = .ok (.iand, 1) := by decide +kernel
theorem dJ6_bitCount_0f7a4_52 : decode cJ6_bitCount_0f7a4 52 = .ok (.ireturn, 1) := by decide +kernel
theorem dJ7_fill_53178_0 : decode cJ7_fill_53178 0 = .ok (.iconst 0, 1) := by decide +kernel
theorem dJ7_fill_53178_1 : decode cJ7_fill_53178 1 = .ok (.istore_n 2, 1) := by decide +kernel
theorem dJ7_fill_53178_2 : decode cJ7_fill_53178 2 = .ok (.aload_n 0, 1) := by decide +kernel
theorem dJ7_fill_53178_3 : decode cJ7_fill_53178 3 = .ok (.arraylength, 1) := by decide +kernel
theorem dJ7_fill_53178_4 : decode cJ7_fill_53178 4 = .ok (.istore_n 3, 1) := by decide +kernel
theorem dJ7_fill_53178_5 : decode cJ7_fill_53178 5 = .ok (.iload_n 2, 1) := by decide +kernel
theorem dJ7_fill_53178_6 : decode cJ7_fill_53178 6 = .ok (.iload_n 3, 1) := by decide +kernel
theorem dJ7_fill_53178_7 : decode cJ7_fill_53178 7 = .ok (.if_icmp .ge 13, 3) := by decide +kernel
theorem dJ7_fill_53178_10 : decode cJ7_fill_53178 10 = .ok (.aload_n 0, 1) := by decide +kernel
theorem dJ7_fill_53178_11 : decode cJ7_fill_53178 11 = .ok (.iload_n 2, 1) := by decide +kernel
theorem dJ7_fill_53178_12 : decode cJ7_fill_53178 12 = .ok (.iload_n 1, 1) := by decide +kernel
theorem dJ7_fill_53178_13 : decode cJ7_fill_53178 13 = .ok (.iastore, 1) := by decide +kernel
theorem dJ7_fill_53178_14 : decode cJ7_fill_53178 14 = .ok (.iinc 2 1, 3) := by decide +kernel
theorem dJ7_fill_53178_17 : decode cJ7_fill_53178 17 = .ok (.goto (-12), 3) := by decide +kernel
theorem dJ7_fill_53178_20 : decode cJ7_fill_53178 20 = .ok (.return_, 1) := by decide +kernel
end
section
set_option maxRecDepth 20000 in
theorem ggX5_init_X2_init : GoodIn wsX5_init wsX2_init := goodIn_r _ [30, 31, 2, 3, 20, 32, 33, 34, 35, 66, 67, 68, 69] (by decide +kernel) (by decide +kernel)
set_option maxRecDepth 20000 in
theorem gX5_init_X2_init : GoodIn wsX5_init (wsX2_init) := ggX5_init_X2_init
set_option maxRecDepth 20000 in
theorem ggX5_init_X0_init : GoodIn wsX5_init wsX0_init := goodIn_r _ [38, 39, 2, 3, 40, 78] (by decide +kernel) (by decide +kernel)
set_option maxRecDepth 20000 in
theorem gX5_init_X0_init : GoodIn wsX5_init (wsX0_init) := ggX5_init_X0_init
set_option maxRecDepth 20000 in
theorem ggX5_init_X4_init : GoodIn wsX5_init wsX4_init := goodIn_r _ [43, 44, 2, 3, 45, 46, 47, 48, 49, 79, 80, 81, 82, 83] (by decide +kernel) (by decide +kernel)
set_option maxRecDepth 20000 in
theorem gX5_init_X4_init : GoodIn wsX5_init (wsX4_init) := ggX5_init_X4_init
set_option maxRecDepth 20000 in
theorem ggX5_init_X1_init : GoodIn wsX5_init wsX1_init := goodIn_r _ [52, 53, 2, 3, 20, 54, 55, 56, 57, 84, 85, 86, 87] (by decide +kernel) (by decide +kernel)
set_option maxRecDepth 20000 in
theorem gX5_init_X1_init : GoodIn wsX5_init (wsX1_init) := ggX5_init_X1_init
set_option maxRecDepth 20000 in
theorem ggX5_init_X3_init : GoodIn wsX5_init wsX3_init := goodIn_r _ [60, 61, 2, 3, 20, 62, 63, 64, 65, 88, 89, 90, 91] (by decide +kernel) (by decide +kernel)
set_option maxRecDepth 20000 in
theorem gX5_init_X3_init : GoodIn wsX5_init (wsX3_init) := ggX5_init_X3_init
theorem dX5_init_0 : decode cX5_init 0 = .ok (.aload_n 0, 1) := by decide +kernel
theorem dX5_init_1 : decode cX5_init 1 = .ok (.invokespecial 1, 3) := by decide +kernel
theorem dX5_init_4 : decode cX5_init 4 = .ok (.aload_n 0, 1) := by decide +kernel
theorem dX5_init_5 : decode cX5_init 5 = .ok (.new 7, 3) := by decide +kernel
theorem dX5_init_8 : decode cX5_init 8 = .ok (.dup, 1) := by decide +kernel
theorem dX5_init_9 : decode cX5_init 9 = .ok (.invokespecial 9, 3) := by decide +kernel
theorem dX5_init_12 : decode cX5_init 12 = .ok (.putfield 10, 3) := by decide +kernel
theorem dX5_init_15 : decode cX5_init 15 = .ok (.aload_n 0, 1) := by decide +kernel
theorem dX5_init_16 : decode cX5_init 16 = .ok (.new 16, 3) := by decide +kernel
theorem dX5_init_19 : decode cX5_init 19 = .ok (.dup, 1) := by decide +kernel
theorem dX5_init_20 : decode cX5_init 20 = .ok (.invokespecial 18, 3) := by decide +kernel
theorem dX5_init_23 : decode cX5_init 23 = .ok (.putfield 19, 3) := by decide +kernel
theorem dX5_init_26 : decode cX5_init 26 = .ok (.aload_n 0, 1) := by decide +kernel
theorem dX5_init_27 : decode cX5_init 27 = .ok (.new 23, 3) := by decide +kernel
theorem dX5_init_30 : decode cX5_init 30 = .ok (.dup, 1) := by decide +kernel
theorem dX5_init_31 : decode cX5_init 31 = .ok (.invokespecial 25, 3) := by decide +kernel
theorem dX5_init_34 : decode cX5_init 34 = .ok (.putfield 26, 3) := by decide +kernel
theorem dX5_init_37 : decode cX5_init 37 = .ok (.aload_n 0, 1) := by decide +kernel
theorem dX5_init_38 : decode cX5_init 38 = .ok (.new 30, 3) := by decide +kernel
theorem dX5_init_41 : decode cX5_init 41 = .ok (.dup, 1) := by decide +kernel
theorem dX5_init_42 : decode cX5_init 42 = .ok (.invokespecial 32, 3) := by decide +kernel
theorem dX5_init_45 : decode cX5_init 45 = .ok (.putfield 33, 3) := by decide +kernel
theorem dX5_init_48 : decode cX5_init 48 = .ok (.aload_n 0, 1) := by decide +kernel
theorem dX5_init_49 : decode cX5_init 49 = .ok (.bipush 20, 2) := by decide +kernel
theorem dX5_init_51 : decode cX5_init 51 = .ok (.newarray .int, 2) := by decide +kernel
theorem dX5_init_53 : decode cX5_init 53 = .ok (.putfield 37, 3) := by decide +kernel
theorem dX5_init_56 : decode cX5_init 56 = .ok (.aload_n 0, 1) := by decide +kernel
theorem dX5_init_57 : decode cX5_init 57 = .ok (.bipush 20, 2) := by decide +kernel
theorem dX5_init_59 : decode cX5_init 59 = .ok (.putfield 41, 3) := by decide +kernel
theorem dX5_init_62 : decode cX5_init 62 = .ok (.aload_n 0, 1) := by decide +kernel
theorem dX5_init_63 : decode cX5_init 63 = .ok (.new 45, 3) := by decide +kernel
theorem dX5_init_66 : decode cX5_init 66 = .ok (.dup, 1) := by decide +kernel
theorem dX5_init_67 : decode cX5_init 67 = .ok (.invokespecial 47, 3) := by decide +kernel
theorem dX5_init_70 : decode cX5_init 70 = .ok (.putfield 48, 3) := by decide +kernel
theorem dX5_init_73 : decode cX5_init 73 = .ok (.aload_n 0, 1) := by decide +kernel
theorem dX5_init_74 : decode cX5_init 74 = .ok (.new 45, 3) := by decide +kernel
theorem dX5_init_77 : decode cX5_init 77 = .ok (.dup, 1) := by decide +kernel
theorem dX5_init_78 : decode cX5_init 78 = .ok (.invokespecial 47, 3) := by decide +kernel
theorem dX5_init_81 : decode cX5_init 81 = .ok (.putfield 52, 3) := by decide +kernel
theorem dX5_init_84 : decode cX5_init 84 = .ok (.return_, 1) := by decide +kernel
set_option maxRecDepth 20000 in
theorem ggX5_addRouter_X2_isEmpty : GoodIn wsX5_addRouter wsX2_isEmpty := goodIn_r _ [6, 7, 40, 41, 42, 43] (by decide +kernel) (by decide +kernel)
set_option maxRecDepth 20000 in
theorem gX5_addRouter_X2_isEmpty : GoodIn wsX5_addRouter (wsV RX5 55 RX2 yX2_isEmpty wsX2_isEmpty) := goodIn_app (goodIn_of _ (by decide +kernel)) ggX5_addRouter_X2_isEmpty
set_option maxRecDepth 20000 in
theorem ggX5_addRouter_X2_has : GoodIn wsX5_addRouter wsX2_has := goodIn_r _ [11, 7, 12, 13, 14, 40, 41, 42, 43] (by decide +kernel) (by decide +kernel)
set_option maxRecDepth 20000 in
theorem gX5_addRouter_X2_has : GoodIn wsX5_addRouter (wsV RX5 59 RX2 yX2_has wsX2_has) := goodIn_app (goodIn_of _ (by decide +kernel)) ggX5_addRouter_X2_has
set_option maxRecDepth 20000 in
theorem ggX5_addRouter_X5_isBelow : GoodIn wsX5_addRouter wsX5_isBelow := goodIn_r _ [14] (by decide +kernel) (by decide +kernel)
set_option maxRecDepth 20000 in
theorem gX5_addRouter_X5_isBelow : GoodIn wsX5_addRouter (va_wsS RX5 63 yX5_isBelow wsX5_isBelow) := goodIn_app (goodIn_of _ (by decide +kernel)) ggX5_addRouter_X5_isBelow
set_option maxRecDepth 20000 in
theorem ggX5_addRouter_X2_find : GoodIn wsX5_addRouter wsX2_find := goodIn_r _ [19, 7, 20, 40, 41, 42, 43] (by decide +kernel) (by decide +kernel)
set_option maxRecDepth 20000 in
theorem gX5_addRouter_X2_find : GoodIn wsX5_addRouter (wsV RX5 67 RX2 yX2_find wsX2_find) := goodIn_app (goodIn_of _ (by decide +kernel)) ggX5_addRouter_X2_find
set_option maxRecDepth 20000 in
theorem ggX5_addRouter_X2_append : GoodIn wsX5_addRouter wsX2_append := goodIn_r _ [24, 7, 25, 26, 20, 12, 13, 14, 27, 28, 29, 5, 30, 31, 9, 10, 11, 40, 41, 42, 43] (by decide +kernel) (by decide +kernel)
set_option maxRecDepth 20000 in
theorem gX5_addRouter_X2_append : GoodIn wsX5_addRouter (wsV RX5 71 RX2 yX2_append wsX2_append) := goodIn_app (goodIn_of _ (by decide +kernel)) ggX5_addRouter_X2_append
theorem dX5_addRouter_0 : decode cX5_addRouter 0 = .ok (.aload_n 0, 1) := by decide +kernel
theorem dX5_addRouter_1 : decode cX5_addRouter 1 = .ok (.getfield 10, 3) := by decide +kernel
theorem dX5_addRouter_4 : decode cX5_addRouter 4 = .ok (.invokevirtual 55, 3) := by decide +kernel
theorem dX5_addRouter_7 : decode cX5_addRouter 7 = .ok (.ifCond .ne 16, 3) := by decide +kernel
theorem dX5_addRouter_10 : decode cX5_addRouter 10 = .ok (.aload_n 0, 1) := by decide +kernel
theorem dX5_addRouter_11 : decode cX5_addRouter 11 = .ok (.getfield 10, 3) := by decide +kernel
theorem dX5_addRouter_14 : decode cX5_addRouter 14 = .ok (.iload_n 1, 1) := by decide +kernel
theorem dX5_addRouter_15 : decode cX5_addRouter 15 = .ok (.invokevirtual 59, 3) := by decide +kernel
theorem dX5_addRouter_18 : decode cX5_addRouter 18 = .ok (.ifCond .ne 5, 3) := by decide +kernel
theorem dX5_addRouter_21 : decode cX5_addRouter 21 = .ok (.iconst (-1), 1) := by decide +kernel
theorem dX5_addRouter_22 : decode cX5_addRouter 22 = .ok (.ireturn, 1) := by decide +kernel
theorem dX5_addRouter_23 : decode cX5_addRouter 23 = .ok (.iload_n 2, 1) := by decide +kernel
theorem dX5_addRouter_24 : decode cX5_addRouter 24 = .ok (.sipush 4096, 3) := by decide +kernel
theorem dX5_addRouter_27 : decode cX5_addRouter 27 = .ok (.invokestatic 63, 3) := by decide +kernel
theorem dX5_addRouter_30 : decode cX5_addRouter 30 = .ok (.ifCond .ne 6, 3) := by decide +kernel
theorem dX5_addRouter_33 : decode cX5_addRouter 33 = .ok (.bipush (-2), 2) := by decide +kernel
theorem dX5_addRouter_35 : decode cX5_addRouter 35 = .ok (.ireturn, 1) := by decide +kernel
theorem dX5_addRouter_36 : decode cX5_addRouter 36 = .ok (.aload_n 0, 1) := by decide +kernel
theorem dX5_addRouter_37 : decode cX5_addRouter 37 = .ok (.getfield 10, 3) := by decide +kernel
theorem dX5_addRouter_40 : decode cX5_addRouter 40 = .ok (.aload_n 0, 1) := by decide +kernel
theorem dX5_addRouter_41 : decode cX5_addRouter 41 = .ok (.getfield 10, 3) := by decide +kernel
theorem dX5_addRouter_44 : decode cX5_addRouter 44 = .ok (.iload_n 2, 1) := by decide +kernel
theorem dX5_addRouter_45 : decode cX5_addRouter 45 = .ok (.invokevirtual 67, 3) := by decide +kernel
theorem dX5_addRouter_48 : decode cX5_addRouter 48 = .ok (.invokevirtual 59, 3) := by decide +kernel
theorem dX5_addRouter_51 : decode cX5_addRouter 51 = .ok (.ifCond .eq 6, 3) := by decide +kernel
theorem dX5_addRouter_54 : decode cX5_addRouter 54 = .ok (.bipush (-3), 2) := by decide +kernel
theorem dX5_addRouter_56 : decode cX5_addRouter 56 = .ok (.ireturn, 1) := by decide +kernel
theorem dX5_addRouter_57 : decode cX5_addRouter 57 = .ok (.aload_n 0, 1) := by decide +kernel
theorem dX5_addRouter_58 : decode cX5_addRouter 58 = .ok (.getfield 10, 3) := by decide +kernel
theorem dX5_addRouter_61 : decode cX5_addRouter 61 = .ok (.iload_n 1, 1) := by decide +kernel
theorem dX5_addRouter_62 : decode cX5_addRouter 62 = .ok (.iload_n 2, 1) := by decide +kernel
theorem dX5_addRouter_63 : decode cX5_addRouter 63 = .ok (.invokevirtual 71, 3) := by decide +kernel
theorem dX5_addRouter_66 : decode cX5_addRouter 66 = .ok (.ireturn, 1) := by decide +kernel
set_option maxRecDepth 20000 in
theorem ggX5_routerCount_X2_size : GoodIn wsX5_routerCount wsX2_size := goodIn_r _ [6, 7, 16, 17, 18, 19] (by decide +kernel) (by decide +kernel)
set_option maxRecDepth 20000 in
theorem gX5_routerCount_X2_size : GoodIn wsX5_routerCount (wsV RX5 75 RX2 yX2_size wsX2_size) := goodIn_app (goodIn_of _ (by decide +kernel)) ggX5_routerCount_X2_size
theorem dX5_routerCount_0 : decode cX5_routerCount 0 = .ok (.aload_n 0, 1) := by decide +kernel
theorem dX5_routerCount_1 : decode cX5_routerCount 1 = .ok (.getfield 10, 3) := by decide +kernel
theorem dX5_routerCount_4 : decode cX5_routerCount 4 = .ok (.invokevirtual 75, 3) := by decide +kernel
theorem dX5_routerCount_7 : decode cX5_routerCount 7 = .ok (.ireturn, 1) := by decide +kernel
set_option maxRecDepth 20000 in
theorem ggX5_depth_X2_has : GoodIn wsX5_depth wsX2_has := goodIn_r _ [6, 7, 8, 9, 10, 25, 26, 27, 28] (by decide +kernel) (by decide +kernel)
set_option maxRecDepth 20000 in
theorem gX5_depth_X2_has : GoodIn wsX5_depth (wsV RX5 59 RX2 yX2_has wsX2_has) := goodIn_app (goodIn_of _ (by decide +kernel)) ggX5_depth_X2_has
set_option maxRecDepth 20000 in
theorem ggX5_depth_X2_depthOf : GoodIn wsX5_depth wsX2_depthOf := goodIn_r _ [14, 15, 16, 3, 4, 5, 6, 7, 8, 9, 10, 25, 26, 27, 28] (by decide +kernel) (by decide +kernel)
set_option maxRecDepth 20000 in
theorem gX5_depth_X2_depthOf : GoodIn wsX5_depth (wsV RX5 79 RX2 yX2_depthOf wsX2_depthOf) := goodIn_app (goodIn_of _ (by decide +kernel)) ggX5_depth_X2_depthOf
theorem dX5_depth_0 : decode cX5_depth 0 = .ok (.aload_n 0, 1) := by decide +kernel
theorem dX5_depth_1 : decode cX5_depth 1 = .ok (.getfield 10, 3) := by decide +kernel
theorem dX5_depth_4 : decode cX5_depth 4 = .ok (.iload_n 1, 1) := by decide +kernel
theorem dX5_depth_5 : decode cX5_depth 5 = .ok (.invokevirtual 59, 3) := by decide +kernel
theorem dX5_depth_8 : decode cX5_depth 8 = .ok (.ifCond .eq 14, 3) := by decide +kernel
theorem dX5_depth_11 : decode cX5_depth 11 = .ok (.aload_n 0, 1) := by decide +kernel
theorem dX5_depth_12 : decode cX5_depth 12 = .ok (.getfield 10, 3) := by decide +kernel
theorem dX5_depth_15 : decode cX5_depth 15 = .ok (.iload_n 1, 1) := by decide +kernel
theorem dX5_depth_16 : decode cX5_depth 16 = .ok (.invokevirtual 79, 3) := by decide +kernel
theorem dX5_depth_19 : decode cX5_depth 19 = .ok (.goto 4, 3) := by decide +kernel
theorem dX5_depth_22 : decode cX5_depth 22 = .ok (.iconst (-1), 1) := by decide +kernel
theorem dX5_depth_23 : decode cX5_depth 23 = .ok (.ireturn, 1) := by decide +kernel
set_option maxRecDepth 20000 in
theorem ggX5_digest_X5_isBelow : GoodIn wsX5_digest wsX5_isBelow := goodIn_r _ [4] (by decide +kernel) (by decide +kernel)
set_option maxRecDepth 20000 in
theorem gX5_digest_X5_isBelow : GoodIn wsX5_digest (va_wsS RX5 63 yX5_isBelow wsX5_isBelow) := goodIn_app (goodIn_of _ (by decide +kernel)) ggX5_digest_X5_isBelow
set_option maxRecDepth 20000 in
theorem ggX5_digest_X5_digestOf : GoodIn wsX5_digest wsX5_digestOf := goodIn_r _ [7] (by decide +kernel) (by decide +kernel)
set_option maxRecDepth 20000 in
theorem gX5_digest_X5_digestOf : GoodIn wsX5_digest (va_wsS RX5 82 yX5_digestOf wsX5_digestOf) := goodIn_app (goodIn_of _ (by decide +kernel)) ggX5_digest_X5_digestOf
theorem dX5_digest_0 : decode cX5_digest 0 = .ok (.iload_n 1, 1) := by decide +kernel
theorem dX5_digest_1 : decode cX5_digest 1 = .ok (.sipush 4096, 3) := by decide +kernel
theorem dX5_digest_4 : decode cX5_digest 4 = .ok (.invokestatic 63, 3) := by decide +kernel
theorem dX5_digest_7 : decode cX5_digest 7 = .ok (.ifCond .eq 10, 3) := by decide +kernel
theorem dX5_digest_10 : decode cX5_digest 10 = .ok (.iload_n 1, 1) := by decide +kernel
theorem dX5_digest_11 : decode cX5_digest 11 = .ok (.invokestatic 82, 3) := by decide +kernel
theorem dX5_digest_14 : decode cX5_digest 14 = .ok (.goto 5, 3) := by decide +kernel
theorem dX5_digest_17 : decode cX5_digest 17 = .ok (.bipush (-2), 2) := by decide +kernel
theorem dX5_digest_19 : decode cX5_digest 19 = .ok (.ireturn, 1) := by decide +kernel
set_option maxRecDepth 20000 in
theorem ggX5_fragment_X5_isBelow : GoodIn wsX5_fragment wsX5_isBelow := goodIn_r _ [4] (by decide +kernel) (by decide +kernel)
set_option maxRecDepth 20000 in
theorem gX5_fragment_X5_isBelow : GoodIn wsX5_fragment (va_wsS RX5 63 yX5_isBelow wsX5_isBelow) := goodIn_app (goodIn_of _ (by decide +kernel)) ggX5_fragment_X5_isBelow
set_option maxRecDepth 20000 in
theorem ggX5_fragment_X5_wordOf : GoodIn wsX5_fragment wsX5_wordOf := goodIn_r _ [7, 8, 9, 3, 10] (by decide +kernel) (by decide +kernel)
set_option maxRecDepth 20000 in
theorem gX5_fragment_X5_wordOf : GoodIn wsX5_fragment (va_wsS RX5 85 yX5_wordOf wsX5_wordOf) := goodIn_app (goodIn_of _ (by decide +kernel)) ggX5_fragment_X5_wordOf
set_option maxRecDepth 20000 in
theorem ggX5_fragment_X5_fragmentOf : GoodIn wsX5_fragment wsX5_fragmentOf := goodIn_r _ [13] (by decide +kernel) (by decide +kernel)
set_option maxRecDepth 20000 in
theorem gX5_fragment_X5_fragmentOf : GoodIn wsX5_fragment (va_wsS RX5 88 yX5_fragmentOf wsX5_fragmentOf) := goodIn_app (goodIn_of _ (by decide +kernel)) ggX5_fragment_X5_fragmentOf
theorem dX5_fragment_0 : decode cX5_fragment 0 = .ok (.iload_n 1, 1) := by decide +kernel
theorem dX5_fragment_1 : decode cX5_fragment 1 = .ok (.sipush 4096, 3) := by decide +kernel
theorem dX5_fragment_4 : decode cX5_fragment 4 = .ok (.invokestatic 63, 3) := by decide +kernel
theorem dX5_fragment_7 : decode cX5_fragment 7 = .ok (.ifCond .eq 11, 3) := by decide +kernel
theorem dX5_fragment_10 : decode cX5_fragment 10 = .ok (.iload_n 2, 1) := by decide +kernel
theorem dX5_fragment_11 : decode cX5_fragment 11 = .ok (.iconst 4, 1) := by decide +kernel
theorem dX5_fragment_12 : decode cX5_fragment 12 = .ok (.invokestatic 63, 3) := by decide +kernel
theorem dX5_fragment_15 : decode cX5_fragment 15 = .ok (.ifCond .ne 6, 3) := by decide +kernel
theorem dX5_fragment_18 : decode cX5_fragment 18 = .ok (.bipush (-2), 2) := by decide +kernel
theorem dX5_fragment_20 : decode cX5_fragment 20 = .ok (.ireturn, 1) := by decide +kernel
theorem dX5_fragment_21 : decode cX5_fragment 21 = .ok (.iload_n 1, 1) := by decide +kernel
theorem dX5_fragment_22 : decode cX5_fragment 22 = .ok (.invokestatic 85, 3) := by decide +kernel
theorem dX5_fragment_25 : decode cX5_fragment 25 = .ok (.iload_n 2, 1) := by decide +kernel
theorem dX5_fragment_26 : decode cX5_fragment 26 = .ok (.invokestatic 88, 3) := by decide +kernel
theorem dX5_fragment_29 : decode cX5_fragment 29 = .ok (.ireturn, 1) := by decide +kernel
set_option maxRecDepth 20000 in
theorem ggX5_setMarkingPercent_X5_isFromOneTo : GoodIn wsX5_setMarkingPercent wsX5_isFromOneTo := goodIn_r _ [5] (by decide +kernel) (by decide +kernel)
set_option maxRecDepth 20000 in
theorem gX5_setMarkingPercent_X5_isFromOneTo : GoodIn wsX5_setMarkingPercent (va_wsS RX5 91 yX5_isFromOneTo wsX5_isFromOneTo) := goodIn_app (goodIn_of _ (by decide +kernel)) ggX5_setMarkingPercent_X5_isFromOneTo
theorem dX5_setMarkingPercent_0 : decode cX5_setMarkingPercent 0 = .ok (.iload_n 1, 1) := by decide +kernel
theorem dX5_setMarkingPercent_1 : decode cX5_setMarkingPercent 1 = .ok (.bipush 100, 2) := by decide +kernel
theorem dX5_setMarkingPercent_3 : decode cX5_setMarkingPercent 3 = .ok (.invokestatic 91, 3) := by decide +kernel
theorem dX5_setMarkingPercent_6 : decode cX5_setMarkingPercent 6 = .ok (.ifCond .ne 6, 3) := by decide +kernel
theorem dX5_setMarkingPercent_9 : decode cX5_setMarkingPercent 9 = .ok (.bipush (-2), 2) := by decide +kernel
theorem dX5_setMarkingPercent_11 : decode cX5_setMarkingPercent 11 = .ok (.ireturn, 1) := by decide +kernel
theorem dX5_setMarkingPercent_12 : decode cX5_setMarkingPercent 12 = .ok (.aload_n 0, 1) := by decide +kernel
theorem dX5_setMarkingPercent_13 : decode cX5_setMarkingPercent 13 = .ok (.getfield 41, 3) := by decide +kernel
theorem dX5_setMarkingPercent_16 : decode cX5_setMarkingPercent 16 = .ok (.istore_n 2, 1) := by decide +kernel
theorem dX5_setMarkingPercent_17 : decode cX5_setMarkingPercent 17 = .ok (.aload_n 0, 1) := by decide +kernel
theorem dX5_setMarkingPercent_18 : decode cX5_setMarkingPercent 18 = .ok (.iload_n 1, 1) := by decide +kernel
theorem dX5_setMarkingPercent_19 : decode cX5_setMarkingPercent 19 = .ok (.putfield 41, 3) := by decide +kernel
theorem dX5_setMarkingPercent_22 : decode cX5_setMarkingPercent 22 = .ok (.iload_n 2, 1) := by decide +kernel
theorem dX5_setMarkingPercent_23 : decode cX5_setMarkingPercent 23 = .ok (.ireturn, 1) := by decide +kernel
set_option maxRecDepth 20000 in
theorem ggX5_setSeed_X0_restart : GoodIn wsX5_setSeed wsX0_restart := goodIn_r _ [6, 7, 16] (by decide +kernel) (by decide +kernel)
set_option maxRecDepth 20000 in
theorem gX5_setSeed_X0_restart : GoodIn wsX5_setSeed (wsV RX5 94 RX0 yX0_restart wsX0_restart) := goodIn_app (goodIn_of _ (by decide +kernel)) ggX5_setSeed_X0_restart
theorem dX5_setSeed_0 : decode cX5_setSeed 0 = .ok (.aload_n 0, 1) := by decide +kernel
theorem dX5_setSeed_1 : decode cX5_setSeed 1 = .ok (.getfield 19, 3) := by decide +kernel
theorem dX5_setSeed_4 : decode cX5_setSeed 4 = .ok (.iload_n 1, 1) := by decide +kernel
theorem dX5_setSeed_5 : decode cX5_setSeed 5 = .ok (.invokevirtual 94, 3) := by decide +kernel
theorem dX5_setSeed_8 : decode cX5_setSeed 8 = .ok (.ireturn, 1) := by decide +kernel
set_option maxRecDepth 20000 in
theorem ggX5_clearMarks_X1_received : GoodIn wsX5_clearMarks wsX1_received := goodIn_r _ [6, 7, 8, 27, 28, 29, 30] (by decide +kernel) (by decide +kernel)
set_option maxRecDepth 20000 in
theorem gX5_clearMarks_X1_received : GoodIn wsX5_clearMarks (wsV RX5 97 RX1 yX1_received wsX1_received) := goodIn_app (goodIn_of _ (by decide +kernel)) ggX5_clearMarks_X1_received
set_option maxRecDepth 20000 in
theorem ggX5_clearMarks_X1_clear : GoodIn wsX5_clearMarks wsX1_clear := goodIn_r _ [12, 13, 14, 7, 8, 15, 16, 17, 18, 27, 28, 29, 30] (by decide +kernel) (by decide +kernel)
set_option maxRecDepth 20000 in
theorem gX5_clearMarks_X1_clear : GoodIn wsX5_clearMarks (wsV RX5 100 RX1 yX1_clear wsX1_clear) := goodIn_app (goodIn_of _ (by decide +kernel)) ggX5_clearMarks_X1_clear
theorem dX5_clearMarks_0 : decode cX5_clearMarks 0 = .ok (.aload_n 0, 1) := by decide +kernel
theorem dX5_clearMarks_1 : decode cX5_clearMarks 1 = .ok (.getfield 33, 3) := by decide +kernel
theorem dX5_clearMarks_4 : decode cX5_clearMarks 4 = .ok (.invokevirtual 97, 3) := by decide +kernel
theorem dX5_clearMarks_7 : decode cX5_clearMarks 7 = .ok (.istore_n 1, 1) := by decide +kernel
theorem dX5_clearMarks_8 : decode cX5_clearMarks 8 = .ok (.aload_n 0, 1) := by decide +kernel
theorem dX5_clearMarks_9 : decode cX5_clearMarks 9 = .ok (.getfield 33, 3) := by decide +kernel
theorem dX5_clearMarks_12 : decode cX5_clearMarks 12 = .ok (.invokevirtual 100, 3) := by decide +kernel
theorem dX5_clearMarks_15 : decode cX5_clearMarks 15 = .ok (.iload_n 1, 1) := by decide +kernel
theorem dX5_clearMarks_16 : decode cX5_clearMarks 16 = .ok (.ireturn, 1) := by decide +kernel
set_option maxRecDepth 20000 in
theorem ggX5_sendPackets_X2_has : GoodIn wsX5_sendPackets wsX2_has := goodIn_r _ [7, 8, 9, 10, 11, 125, 126, 127, 128] (by decide +kernel) (by decide +kernel)
set_option maxRecDepth 20000 in
theorem gX5_sendPackets_X2_has : GoodIn wsX5_sendPackets (wsV RX5 59 RX2 yX2_has wsX2_has) := goodIn_app (goodIn_of _ (by decide +kernel)) ggX5_sendPackets_X2_has
set_option maxRecDepth 20000 in
theorem ggX5_sendPackets_X5_isFromOneTo : GoodIn wsX5_sendPackets wsX5_isFromOneTo := goodIn_r _ [14] (by decide +kernel) (by decide +kernel)
set_option maxRecDepth 20000 in
theorem gX5_sendPackets_X5_isFromOneTo : GoodIn wsX5_sendPackets (va_wsS RX5 91 yX5_isFromOneTo wsX5_isFromOneTo) := goodIn_app (goodIn_of _ (by decide +kernel)) ggX5_sendPackets_X5_isFromOneTo
set_option maxRecDepth 20000 in
theorem ggX5_sendPackets_X4_startUnmarked : GoodIn wsX5_sendPackets wsX4_startUnmarked := goodIn_r _ [19, 20, 21, 22, 23, 24, 18, 25, 26, 27, 28, 129, 130, 131, 132, 133] (by decide +kernel) (by decide +kernel)
set_option maxRecDepth 20000 in
theorem gX5_sendPackets_X4_startUnmarked : GoodIn wsX5_sendPackets (wsV RX5 103 RX4 yX4_startUnmarked wsX4_startUnmarked) := goodIn_app (goodIn_of _ (by decide +kernel)) ggX5_sendPackets_X4_startUnmarked
set_option maxRecDepth 20000 in
theorem ggX5_sendPackets_X5_deliver : GoodIn wsX5_sendPackets wsX5_deliver := goodIn_r _ [32, 33, 2, 34, 35, 36, 10, 37, 1, 3, 4, 5, 6, 7, 8, 9, 11, 38, 39, 40, 41, 42, 43, 44, 45, 46, 47, 48, 49, 50, 51, 52, 53, 54, 55, 56, 57, 58, 59, 60, 61, 62, 63, 64, 65, 66, 67, 68, 69, 70, 71, 18, 72, 20, 21, 22, 23, 24, 25, 26, 27, 28, 73, 74, 75, 76, 77, 78, 79, 80, 81, 82, 83, 84, 85, 86, 87, 88, 89, 90, 91, 92, 93, 94, 95, 96, 97, 98, 99, 100, 101, 102, 103, 104, 105, 106, 107, 108, 109, 110, 111, 112, 113, 114, 115, 116, 117, 118, 119, 120, 121, 122, 123, 124, 125, 126, 127, 128, 134, 129, 130, 131, 132, 133, 135, 136, 137, 138] (by decide +kernel) (by decide +kernel)
set_option maxRecDepth 20000 in
theorem gX5_sendPackets_X5_deliver : GoodIn wsX5_sendPackets (wsV RX5 106 RX5 yX5_deliver wsX5_deliver) := goodIn_app (goodIn_of _ (by decide +kernel)) ggX5_sendPackets_X5_deliver
theorem dX5_sendPackets_0 : decode cX5_sendPackets 0 = .ok (.aload_n 0, 1) := by decide +kernel
theorem dX5_sendPackets_1 : decode cX5_sendPackets 1 = .ok (.getfield 10, 3) := by decide +kernel
theorem dX5_sendPackets_4 : decode cX5_sendPackets 4 = .ok (.iload_n 1, 1) := by decide +kernel
theorem dX5_sendPackets_5 : decode cX5_sendPackets 5 = .ok (.invokevirtual 59, 3) := by decide +kernel
theorem dX5_sendPackets_8 : decode cX5_sendPackets 8 = .ok (.ifCond .ne 5, 3) := by decide +kernel
theorem dX5_sendPackets_11 : decode cX5_sendPackets 11 = .ok (.iconst (-1), 1) := by decide +kernel
theorem dX5_sendPackets_12 : decode cX5_sendPackets 12 = .ok (.ireturn, 1) := by decide +kernel
theorem dX5_sendPackets_13 : decode cX5_sendPackets 13 = .ok (.iload_n 2, 1) := by decide +kernel
theorem dX5_sendPackets_14 : decode cX5_sendPackets 14 = .ok (.sipush 500, 3) := by decide +kernel
theorem dX5_sendPackets_17 : decode cX5_sendPackets 17 = .ok (.invokestatic 91, 3) := by decide +kernel
theorem dX5_sendPackets_20 : decode cX5_sendPackets 20 = .ok (.ifCond .ne 6, 3) := by decide +kernel
theorem dX5_sendPackets_23 : decode cX5_sendPackets 23 = .ok (.bipush (-2), 2) := by decide +kernel
theorem dX5_sendPackets_25 : decode cX5_sendPackets 25 = .ok (.ireturn, 1) := by decide +kernel
theorem dX5_sendPackets_26 : decode cX5_sendPackets 26 = .ok (.iconst 0, 1) := by decide +kernel
theorem dX5_sendPackets_27 : decode cX5_sendPackets 27 = .ok (.istore_n 3, 1) := by decide +kernel
theorem dX5_sendPackets_28 : decode cX5_sendPackets 28 = .ok (.iconst 0, 1) := by decide +kernel
theorem dX5_sendPackets_29 : decode cX5_sendPackets 29 = .ok (.istore 4, 2) := by decide +kernel
theorem dX5_sendPackets_31 : decode cX5_sendPackets 31 = .ok (.iload 4, 2) := by decide +kernel
theorem dX5_sendPackets_33 : decode cX5_sendPackets 33 = .ok (.iload_n 2, 1) := by decide +kernel
theorem dX5_sendPackets_34 : decode cX5_sendPackets 34 = .ok (.if_icmp .ge 24, 3) := by decide +kernel
theorem dX5_sendPackets_37 : decode cX5_sendPackets 37 = .ok (.aload_n 0, 1) := by decide +kernel
theorem dX5_sendPackets_38 : decode cX5_sendPackets 38 = .ok (.getfield 26, 3) := by decide +kernel
theorem dX5_sendPackets_41 : decode cX5_sendPackets 41 = .ok (.invokevirtual 103, 3) := by decide +kernel
theorem dX5_sendPackets_44 : decode cX5_sendPackets 44 = .ok (.iload_n 3, 1) := by decide +kernel
theorem dX5_sendPackets_45 : decode cX5_sendPackets 45 = .ok (.aload_n 0, 1) := by decide +kernel
theorem dX5_sendPackets_46 : decode cX5_sendPackets 46 = .ok (.iload_n 1, 1) := by decide +kernel
theorem dX5_sendPackets_47 : decode cX5_sendPackets 47 = .ok (.invokevirtual 106, 3) := by decide +kernel
theorem dX5_sendPackets_50 : decode cX5_sendPackets 50 = .ok (.iadd, 1) := by decide +kernel
theorem dX5_sendPackets_51 : decode cX5_sendPackets 51 = .ok (.istore_n 3, 1) := by decide +kernel
theorem dX5_sendPackets_52 : decode cX5_sendPackets 52 = .ok (.iinc 4 1, 3) := by decide +kernel
theorem dX5_sendPackets_55 : decode cX5_sendPackets 55 = .ok (.goto (-24), 3) := by decide +kernel
theorem dX5_sendPackets_58 : decode cX5_sendPackets 58 = .ok (.iload_n 3, 1) := by decide +kernel
theorem dX5_sendPackets_59 : decode cX5_sendPackets 59 = .ok (.ireturn, 1) := by decide +kernel
set_option maxRecDepth 20000 in
theorem ggX5_sendForged_X2_has : GoodIn wsX5_sendForged wsX2_has := goodIn_r _ [7, 8, 9, 10, 11, 129, 130, 131, 132] (by decide +kernel) (by decide +kernel)
set_option maxRecDepth 20000 in
theorem gX5_sendForged_X2_has : GoodIn wsX5_sendForged (wsV RX5 59 RX2 yX2_has wsX2_has) := goodIn_app (goodIn_of _ (by decide +kernel)) ggX5_sendForged_X2_has
set_option maxRecDepth 20000 in
theorem ggX5_sendForged_X5_isFromOneTo : GoodIn wsX5_sendForged wsX5_isFromOneTo := goodIn_r _ [14] (by decide +kernel) (by decide +kernel)
set_option maxRecDepth 20000 in
theorem gX5_sendForged_X5_isFromOneTo : GoodIn wsX5_sendForged (va_wsS RX5 91 yX5_isFromOneTo wsX5_isFromOneTo) := goodIn_app (goodIn_of _ (by decide +kernel)) ggX5_sendForged_X5_isFromOneTo
set_option maxRecDepth 20000 in
theorem ggX5_sendForged_X5_isMark : GoodIn wsX5_sendForged wsX5_isMark := goodIn_r _ [17, 18, 9, 10, 11] (by decide +kernel) (by decide +kernel)
set_option maxRecDepth 20000 in
theorem gX5_sendForged_X5_isMark : GoodIn wsX5_sendForged (va_wsS RX5 109 yX5_isMark wsX5_isMark) := goodIn_app (goodIn_of _ (by decide +kernel)) ggX5_sendForged_X5_isMark
set_option maxRecDepth 20000 in
theorem ggX5_sendForged_X4_startForged : GoodIn wsX5_sendForged wsX4_startForged := goodIn_r _ [23, 24, 25, 26, 27, 28, 22, 29, 30, 31, 32, 133, 134, 135, 136, 137] (by decide +kernel) (by decide +kernel)
set_option maxRecDepth 20000 in
theorem gX5_sendForged_X4_startForged : GoodIn wsX5_sendForged (wsV RX5 113 RX4 yX4_startForged wsX4_startForged) := goodIn_app (goodIn_of _ (by decide +kernel)) ggX5_sendForged_X4_startForged
set_option maxRecDepth 20000 in
theorem ggX5_sendForged_X5_deliver : GoodIn wsX5_sendForged wsX5_deliver := goodIn_r _ [36, 37, 2, 38, 39, 40, 10, 41, 1, 3, 4, 5, 6, 7, 8, 9, 11, 42, 43, 44, 45, 46, 47, 48, 49, 50, 51, 52, 53, 54, 55, 56, 57, 58, 59, 60, 61, 62, 63, 64, 65, 66, 67, 68, 69, 70, 71, 72, 73, 74, 75, 22, 76, 24, 25, 26, 27, 28, 29, 30, 31, 32, 77, 78, 79, 80, 81, 82, 83, 84, 85, 86, 87, 88, 89, 90, 91, 92, 93, 94, 95, 96, 97, 98, 99, 100, 101, 102, 103, 104, 105, 106, 107, 108, 109, 110, 111, 112, 113, 114, 115, 116, 117, 118, 119, 120, 121, 122, 123, 124, 125, 126, 127, 128, 129, 130, 131, 132, 138, 133, 134, 135, 136, 137, 139, 140, 141, 142] (by decide +kernel) (by decide +kernel)
set_option maxRecDepth 20000 in
theorem gX5_sendForged_X5_deliver : GoodIn wsX5_sendForged (wsV RX5 106 RX5 yX5_deliver wsX5_deliver) := goodIn_app (goodIn_of _ (by decide +kernel)) ggX5_sendForged_X5_deliver
theorem dX5_sendForged_0 : decode cX5_sendForged 0 = .ok (.aload_n 0, 1) := by decide +kernel
theorem dX5_sendForged_1 : decode cX5_sendForged 1 = .ok (.getfield 10, 3) := by decide +kernel
theorem dX5_sendForged_4 : decode cX5_sendForged 4 = .ok (.iload_n 1, 1) := by decide +kernel
theorem dX5_sendForged_5 : decode cX5_sendForged 5 = .ok (.invokevirtual 59, 3) := by decide +kernel
theorem dX5_sendForged_8 : decode cX5_sendForged 8 = .ok (.ifCond .ne 5, 3) := by decide +kernel
theorem dX5_sendForged_11 : decode cX5_sendForged 11 = .ok (.iconst (-1), 1) := by decide +kernel
theorem dX5_sendForged_12 : decode cX5_sendForged 12 = .ok (.ireturn, 1) := by decide +kernel
theorem dX5_sendForged_13 : decode cX5_sendForged 13 = .ok (.iload_n 2, 1) := by decide +kernel
theorem dX5_sendForged_14 : decode cX5_sendForged 14 = .ok (.sipush 500, 3) := by decide +kernel
theorem dX5_sendForged_17 : decode cX5_sendForged 17 = .ok (.invokestatic 91, 3) := by decide +kernel
theorem dX5_sendForged_20 : decode cX5_sendForged 20 = .ok (.ifCond .eq 14, 3) := by decide +kernel
theorem dX5_sendForged_23 : decode cX5_sendForged 23 = .ok (.iload_n 3, 1) := by decide +kernel
theorem dX5_sendForged_24 : decode cX5_sendForged 24 = .ok (.iload 4, 2) := by decide +kernel
theorem dX5_sendForged_26 : decode cX5_sendForged 26 = .ok (.iload 5, 2) := by decide +kernel
theorem dX5_sendForged_28 : decode cX5_sendForged 28 = .ok (.invokestatic 109, 3) := by decide +kernel
theorem dX5_sendForged_31 : decode cX5_sendForged 31 = .ok (.ifCond .ne 6, 3) := by decide +kernel
theorem dX5_sendForged_34 : decode cX5_sendForged 34 = .ok (.bipush (-2), 2) := by decide +kernel
theorem dX5_sendForged_36 : decode cX5_sendForged 36 = .ok (.ireturn, 1) := by decide +kernel
theorem dX5_sendForged_37 : decode cX5_sendForged 37 = .ok (.iconst 0, 1) := by decide +kernel
theorem dX5_sendForged_38 : decode cX5_sendForged 38 = .ok (.istore 6, 2) := by decide +kernel
theorem dX5_sendForged_40 : decode cX5_sendForged 40 = .ok (.iconst 0, 1) := by decide +kernel
theorem dX5_sendForged_41 : decode cX5_sendForged 41 = .ok (.istore 7, 2) := by decide +kernel
theorem dX5_sendForged_43 : decode cX5_sendForged 43 = .ok (.iload 7, 2) := by decide +kernel
theorem dX5_sendForged_45 : decode cX5_sendForged 45 = .ok (.iload_n 2, 1) := by decide +kernel
theorem dX5_sendForged_46 : decode cX5_sendForged 46 = .ok (.if_icmp .ge 31, 3) := by decide +kernel
theorem dX5_sendForged_49 : decode cX5_sendForged 49 = .ok (.aload_n 0, 1) := by decide +kernel
theorem dX5_sendForged_50 : decode cX5_sendForged 50 = .ok (.getfield 26, 3) := by decide +kernel
theorem dX5_sendForged_53 : decode cX5_sendForged 53 = .ok (.iload_n 3, 1) := by decide +kernel
theorem dX5_sendForged_54 : decode cX5_sendForged 54 = .ok (.iload 4, 2) := by decide +kernel
theorem dX5_sendForged_56 : decode cX5_sendForged 56 = .ok (.iload 5, 2) := by decide +kernel
theorem dX5_sendForged_58 : decode cX5_sendForged 58 = .ok (.invokevirtual 113, 3) := by decide +kernel
theorem dX5_sendForged_61 : decode cX5_sendForged 61 = .ok (.iload 6, 2) := by decide +kernel
theorem dX5_sendForged_63 : decode cX5_sendForged 63 = .ok (.aload_n 0, 1) := by decide +kernel
theorem dX5_sendForged_64 : decode cX5_sendForged 64 = .ok (.iload_n 1, 1) := by decide +kernel
theorem dX5_sendForged_65 : decode cX5_sendForged 65 = .ok (.invokevirtual 106, 3) := by decide +kernel
theorem dX5_sendForged_68 : decode cX5_sendForged 68 = .ok (.iadd, 1) := by decide +kernel
theorem dX5_sendForged_69 : decode cX5_sendForged 69 = .ok (.istore 6, 2) := by decide +kernel
theorem dX5_sendForged_71 : decode cX5_sendForged 71 = .ok (.iinc 7 1, 3) := by decide +kernel
theorem dX5_sendForged_74 : decode cX5_sendForged 74 = .ok (.goto (-31), 3) := by decide +kernel
theorem dX5_sendForged_77 : decode cX5_sendForged 77 = .ok (.iload 6, 2) := by decide +kernel
theorem dX5_sendForged_79 : decode cX5_sendForged 79 = .ok (.ireturn, 1) := by decide +kernel
set_option maxRecDepth 20000 in
theorem ggX5_packetsAtDistance_X5_isBelow : GoodIn wsX5_packetsAtDistance wsX5_isBelow := goodIn_r _ [5] (by decide +kernel) (by decide +kernel)
set_option maxRecDepth 20000 in
theorem gX5_packetsAtDistance_X5_isBelow : GoodIn wsX5_packetsAtDistance (va_wsS RX5 63 yX5_isBelow wsX5_isBelow) := goodIn_app (goodIn_of _ (by decide +kernel)) ggX5_packetsAtDistance_X5_isBelow
set_option maxRecDepth 20000 in
theorem ggX5_packetsAtDistance_X1_countAt : GoodIn wsX5_packetsAtDistance wsX1_countAt := goodIn_r _ [10, 11, 12, 13, 9, 14, 15, 16, 17, 18, 19, 20, 21, 30, 31, 32, 33] (by decide +kernel) (by decide +kernel)
set_option maxRecDepth 20000 in
theorem gX5_packetsAtDistance_X1_countAt : GoodIn wsX5_packetsAtDistance (wsV RX5 117 RX1 yX1_countAt wsX1_countAt) := goodIn_app (goodIn_of _ (by decide +kernel)) ggX5_packetsAtDistance_X1_countAt
theorem dX5_packetsAtDistance_0 : decode cX5_packetsAtDistance 0 = .ok (.iload_n 1, 1) := by decide +kernel
theorem dX5_packetsAtDistance_1 : decode cX5_packetsAtDistance 1 = .ok (.bipush 32, 2) := by decide +kernel
theorem dX5_packetsAtDistance_3 : decode cX5_packetsAtDistance 3 = .ok (.invokestatic 63, 3) := by decide +kernel
theorem dX5_packetsAtDistance_6 : decode cX5_packetsAtDistance 6 = .ok (.ifCond .eq 14, 3) := by decide +kernel
theorem dX5_packetsAtDistance_9 : decode cX5_packetsAtDistance 9 = .ok (.aload_n 0, 1) := by decide +kernel
theorem dX5_packetsAtDistance_10 : decode cX5_packetsAtDistance 10 = .ok (.getfield 33, 3) := by decide +kernel
theorem dX5_packetsAtDistance_13 : decode cX5_packetsAtDistance 13 = .ok (.iload_n 1, 1) := by decide +kernel
theorem dX5_packetsAtDistance_14 : decode cX5_packetsAtDistance 14 = .ok (.invokevirtual 117, 3) := by decide +kernel
theorem dX5_packetsAtDistance_17 : decode cX5_packetsAtDistance 17 = .ok (.goto 5, 3) := by decide +kernel
theorem dX5_packetsAtDistance_20 : decode cX5_packetsAtDistance 20 = .ok (.bipush (-2), 2) := by decide +kernel
theorem dX5_packetsAtDistance_22 : decode cX5_packetsAtDistance 22 = .ok (.ireturn, 1) := by decide +kernel
set_option maxRecDepth 20000 in
theorem ggX5_unmarkedCount_X1_unmarked : GoodIn wsX5_unmarkedCount wsX1_unmarked := goodIn_r _ [6, 7, 16, 17, 18, 19] (by decide +kernel) (by decide +kernel)
set_option maxRecDepth 20000 in
theorem gX5_unmarkedCount_X1_unmarked : GoodIn wsX5_unmarkedCount (wsV RX5 120 RX1 yX1_unmarked wsX1_unmarked) := goodIn_app (goodIn_of _ (by decide +kernel)) ggX5_unmarkedCount_X1_unmarked
theorem dX5_unmarkedCount_0 : decode cX5_unmarkedCount 0 = .ok (.aload_n 0, 1) := by decide +kernel
theorem dX5_unmarkedCount_1 : decode cX5_unmarkedCount 1 = .ok (.getfield 33, 3) := by decide +kernel
theorem dX5_unmarkedCount_4 : decode cX5_unmarkedCount 4 = .ok (.invokevirtual 120, 3) := by decide +kernel
theorem dX5_unmarkedCount_7 : decode cX5_unmarkedCount 7 = .ok (.ireturn, 1) := by decide +kernel
set_option maxRecDepth 20000 in
theorem ggX5_markCount_X5_isMark : GoodIn wsX5_markCount wsX5_isMark := goodIn_r _ [5, 6, 7, 4, 8] (by decide +kernel) (by decide +kernel)
set_option maxRecDepth 20000 in
theorem gX5_markCount_X5_isMark : GoodIn wsX5_markCount (va_wsS RX5 109 yX5_isMark wsX5_isMark) := goodIn_app (goodIn_of _ (by decide +kernel)) ggX5_markCount_X5_isMark
set_option maxRecDepth 20000 in
theorem ggX5_markCount_X1_countOf : GoodIn wsX5_markCount wsX1_countOf := goodIn_r _ [13, 14, 15, 16, 12, 17, 18, 19, 20, 29, 30, 31, 32] (by decide +kernel) (by decide +kernel)
set_option maxRecDepth 20000 in
theorem gX5_markCount_X1_countOf : GoodIn wsX5_markCount (wsV RX5 123 RX1 yX1_countOf wsX1_countOf) := goodIn_app (goodIn_of _ (by decide +kernel)) ggX5_markCount_X1_countOf
theorem dX5_markCount_0 : decode cX5_markCount 0 = .ok (.iload_n 1, 1) := by decide +kernel
theorem dX5_markCount_1 : decode cX5_markCount 1 = .ok (.iload_n 2, 1) := by decide +kernel
theorem dX5_markCount_2 : decode cX5_markCount 2 = .ok (.iload_n 3, 1) := by decide +kernel
theorem dX5_markCount_3 : decode cX5_markCount 3 = .ok (.invokestatic 109, 3) := by decide +kernel
theorem dX5_markCount_6 : decode cX5_markCount 6 = .ok (.ifCond .eq 16, 3) := by decide +kernel
theorem dX5_markCount_9 : decode cX5_markCount 9 = .ok (.aload_n 0, 1) := by decide +kernel
theorem dX5_markCount_10 : decode cX5_markCount 10 = .ok (.getfield 33, 3) := by decide +kernel
theorem dX5_markCount_13 : decode cX5_markCount 13 = .ok (.iload_n 1, 1) := by decide +kernel
theorem dX5_markCount_14 : decode cX5_markCount 14 = .ok (.iload_n 2, 1) := by decide +kernel
theorem dX5_markCount_15 : decode cX5_markCount 15 = .ok (.iload_n 3, 1) := by decide +kernel
theorem dX5_markCount_16 : decode cX5_markCount 16 = .ok (.invokevirtual 123, 3) := by decide +kernel
theorem dX5_markCount_19 : decode cX5_markCount 19 = .ok (.goto 5, 3) := by decide +kernel
theorem dX5_markCount_22 : decode cX5_markCount 22 = .ok (.bipush (-2), 2) := by decide +kernel
theorem dX5_markCount_24 : decode cX5_markCount 24 = .ok (.ireturn, 1) := by decide +kernel
set_option maxRecDepth 20000 in
theorem ggX5_fragmentCount_X5_isBelow : GoodIn wsX5_fragmentCount wsX5_isBelow := goodIn_r _ [5] (by decide +kernel) (by decide +kernel)
set_option maxRecDepth 20000 in
theorem gX5_fragmentCount_X5_isBelow : GoodIn wsX5_fragmentCount (va_wsS RX5 63 yX5_isBelow wsX5_isBelow) := goodIn_app (goodIn_of _ (by decide +kernel)) ggX5_fragmentCount_X5_isBelow
set_option maxRecDepth 20000 in
theorem ggX5_fragmentCount_X1_differentFragments : GoodIn wsX5_fragmentCount wsX1_differentFragments := goodIn_r _ [10, 11, 12, 13, 9, 14, 15, 16, 17, 18, 19, 20, 21, 30, 31, 32, 33] (by decide +kernel) (by decide +kernel)
set_option maxRecDepth 20000 in
theorem gX5_fragmentCount_X1_differentFragments : GoodIn wsX5_fragmentCount (wsV RX5 127 RX1 yX1_differentFragments wsX1_differentFragments) := goodIn_app (goodIn_of _ (by decide +kernel)) ggX5_fragmentCount_X1_differentFragments
theorem dX5_fragmentCount_0 : decode cX5_fragmentCount 0 = .ok (.iload_n 1, 1) := by decide +kernel
theorem dX5_fragmentCount_1 : decode cX5_fragmentCount 1 = .ok (.bipush 32, 2) := by decide +kernel
theorem dX5_fragmentCount_3 : decode cX5_fragmentCount 3 = .ok (.invokestatic 63, 3) := by decide +kernel
theorem dX5_fragmentCount_6 : decode cX5_fragmentCount 6 = .ok (.ifCond .eq 11, 3) := by decide +kernel
theorem dX5_fragmentCount_9 : decode cX5_fragmentCount 9 = .ok (.iload_n 2, 1) := by decide +kernel
theorem dX5_fragmentCount_10 : decode cX5_fragmentCount 10 = .ok (.iconst 4, 1) := by decide +kernel
theorem dX5_fragmentCount_11 : decode cX5_fragmentCount 11 = .ok (.invokestatic 63, 3) := by decide +kernel
theorem dX5_fragmentCount_14 : decode cX5_fragmentCount 14 = .ok (.ifCond .ne 6, 3) := by decide +kernel
theorem dX5_fragmentCount_17 : decode cX5_fragmentCount 17 = .ok (.bipush (-2), 2) := by decide +kernel
theorem dX5_fragmentCount_19 : decode cX5_fragmentCount 19 = .ok (.ireturn, 1) := by decide +kernel
theorem dX5_fragmentCount_20 : decode cX5_fragmentCount 20 = .ok (.aload_n 0, 1) := by decide +kernel
theorem dX5_fragmentCount_21 : decode cX5_fragmentCount 21 = .ok (.getfield 33, 3) := by decide +kernel
theorem dX5_fragmentCount_24 : decode cX5_fragmentCount 24 = .ok (.iload_n 1, 1) := by decide +kernel
theorem dX5_fragmentCount_25 : decode cX5_fragmentCount 25 = .ok (.iload_n 2, 1) := by decide +kernel
theorem dX5_fragmentCount_26 : decode cX5_fragmentCount 26 = .ok (.invokevirtual 127, 3) := by decide +kernel
theorem dX5_fragmentCount_29 : decode cX5_fragmentCount 29 = .ok (.ireturn, 1) := by decide +kernel
set_option maxRecDepth 20000 in
theorem ggX5_greatestDistance_X1_hasDistance : GoodIn wsX5_greatestDistance wsX1_hasDistance := goodIn_r _ [6, 7, 8, 9, 5, 10, 19, 20, 21, 22] (by decide +kernel) (by decide +kernel)
set_option maxRecDepth 20000 in
theorem gX5_greatestDistance_X1_hasDistance : GoodIn wsX5_greatestDistance (wsV RX5 130 RX1 yX1_hasDistance wsX1_hasDistance) := goodIn_app (goodIn_of _ (by decide +kernel)) ggX5_greatestDistance_X1_hasDistance
theorem dX5_greatestDistance_0 : decode cX5_greatestDistance 0 = .ok (.bipush 31, 2) := by decide +kernel
theorem dX5_greatestDistance_2 : decode cX5_greatestDistance 2 = .ok (.istore_n 1, 1) := by decide +kernel
theorem dX5_greatestDistance_3 : decode cX5_greatestDistance 3 = .ok (.iload_n 1, 1) := by decide +kernel
theorem dX5_greatestDistance_4 : decode cX5_greatestDistance 4 = .ok (.ifCond .lt 22, 3) := by decide +kernel
theorem dX5_greatestDistance_7 : decode cX5_greatestDistance 7 = .ok (.aload_n 0, 1) := by decide +kernel
theorem dX5_greatestDistance_8 : decode cX5_greatestDistance 8 = .ok (.getfield 33, 3) := by decide +kernel
theorem dX5_greatestDistance_11 : decode cX5_greatestDistance 11 = .ok (.iload_n 1, 1) := by decide +kernel
theorem dX5_greatestDistance_12 : decode cX5_greatestDistance 12 = .ok (.invokevirtual 130, 3) := by decide +kernel
theorem dX5_greatestDistance_15 : decode cX5_greatestDistance 15 = .ok (.ifCond .eq 5, 3) := by decide +kernel
theorem dX5_greatestDistance_18 : decode cX5_greatestDistance 18 = .ok (.iload_n 1, 1) := by decide +kernel
theorem dX5_greatestDistance_19 : decode cX5_greatestDistance 19 = .ok (.ireturn, 1) := by decide +kernel
theorem dX5_greatestDistance_20 : decode cX5_greatestDistance 20 = .ok (.iinc 1 (-1), 3) := by decide +kernel
theorem dX5_greatestDistance_23 : decode cX5_greatestDistance 23 = .ok (.goto (-20), 3) := by decide +kernel
theorem dX5_greatestDistance_26 : decode cX5_greatestDistance 26 = .ok (.bipush (-7), 2) := by decide +kernel
theorem dX5_greatestDistance_28 : decode cX5_greatestDistance 28 = .ok (.ireturn, 1) := by decide +kernel
set_option maxRecDepth 20000 in
theorem ggX5_isPathComplete_X2_has : GoodIn wsX5_isPathComplete wsX2_has := goodIn_r _ [7, 8, 9, 10, 11, 65, 66, 67, 68] (by decide +kernel) (by decide +kernel)
set_option maxRecDepth 20000 in
theorem gX5_isPathComplete_X2_has : GoodIn wsX5_isPathComplete (wsV RX5 59 RX2 yX2_has wsX2_has) := goodIn_app (goodIn_of _ (by decide +kernel)) ggX5_isPathComplete_X2_has
set_option maxRecDepth 20000 in
theorem ggX5_isPathComplete_X2_depthOf : GoodIn wsX5_isPathComplete wsX2_depthOf := goodIn_r _ [15, 16, 17, 4, 5, 6, 7, 8, 9, 10, 11, 65, 66, 67, 68] (by decide +kernel) (by decide +kernel)
set_option maxRecDepth 20000 in
theorem gX5_isPathComplete_X2_depthOf : GoodIn wsX5_isPathComplete (wsV RX5 79 RX2 yX2_depthOf wsX2_depthOf) := goodIn_app (goodIn_of _ (by decide +kernel)) ggX5_isPathComplete_X2_depthOf
set_option maxRecDepth 20000 in
theorem ggX5_isPathComplete_X2_trueMarksOf : GoodIn wsX5_isPathComplete wsX2_trueMarksOf := goodIn_r _ [21, 22, 23, 24, 6, 25, 26, 17, 4, 5, 7, 8, 9, 10, 11, 27, 28, 29, 30, 31, 32, 33, 34, 35, 36, 37, 38, 39, 40, 65, 66, 67, 68] (by decide +kernel) (by decide +kernel)
set_option maxRecDepth 20000 in
theorem gX5_isPathComplete_X2_trueMarksOf : GoodIn wsX5_isPathComplete (wsV RX5 133 RX2 yX2_trueMarksOf wsX2_trueMarksOf) := goodIn_app (goodIn_of _ (by decide +kernel)) ggX5_isPathComplete_X2_trueMarksOf
set_option maxRecDepth 20000 in
theorem ggX5_isPathComplete_X1_holdsWord : GoodIn wsX5_isPathComplete wsX1_holdsWord := goodIn_r _ [45, 46, 47, 48, 44, 49, 50, 51, 52, 53, 54, 10, 55, 69, 70, 71, 72] (by decide +kernel) (by decide +kernel)
set_option maxRecDepth 20000 in
theorem gX5_isPathComplete_X1_holdsWord : GoodIn wsX5_isPathComplete (wsV RX5 136 RX1 yX1_holdsWord wsX1_holdsWord) := goodIn_app (goodIn_of _ (by decide +kernel)) ggX5_isPathComplete_X1_holdsWord
set_option maxRecDepth 20000 in
theorem ggX5_isPathComplete_X2_parentOf : GoodIn wsX5_isPathComplete wsX2_parentOf := goodIn_r _ [25, 26, 17, 4, 5, 6, 7, 8, 9, 10, 11, 65, 66, 67, 68] (by decide +kernel) (by decide +kernel)
set_option maxRecDepth 20000 in
theorem gX5_isPathComplete_X2_parentOf : GoodIn wsX5_isPathComplete (wsV RX5 139 RX2 yX2_parentOf wsX2_parentOf) := goodIn_app (goodIn_of _ (by decide +kernel)) ggX5_isPathComplete_X2_parentOf
theorem dX5_isPathComplete_0 : decode cX5_isPathComplete 0 = .ok (.aload_n 0, 1) := by decide +kernel
theorem dX5_isPathComplete_1 : decode cX5_isPathComplete 1 = .ok (.getfield 10, 3) := by decide +kernel
theorem dX5_isPathComplete_4 : decode cX5_isPathComplete 4 = .ok (.iload_n 1, 1) := by decide +kernel
theorem dX5_isPathComplete_5 : decode cX5_isPathComplete 5 = .ok (.invokevirtual 59, 3) := by decide +kernel
theorem dX5_isPathComplete_8 : decode cX5_isPathComplete 8 = .ok (.ifCond .ne 5, 3) := by decide +kernel
theorem dX5_isPathComplete_11 : decode cX5_isPathComplete 11 = .ok (.iconst (-1), 1) := by decide +kernel
theorem dX5_isPathComplete_12 : decode cX5_isPathComplete 12 = .ok (.ireturn, 1) := by decide +kernel
theorem dX5_isPathComplete_13 : decode cX5_isPathComplete 13 = .ok (.iload_n 1, 1) := by decide +kernel
theorem dX5_isPathComplete_14 : decode cX5_isPathComplete 14 = .ok (.istore_n 2, 1) := by decide +kernel
theorem dX5_isPathComplete_15 : decode cX5_isPathComplete 15 = .ok (.iconst 0, 1) := by decide +kernel
theorem dX5_isPathComplete_16 : decode cX5_isPathComplete 16 = .ok (.istore_n 3, 1) := by decide +kernel
theorem dX5_isPathComplete_17 : decode cX5_isPathComplete 17 = .ok (.iload_n 3, 1) := by decide +kernel
theorem dX5_isPathComplete_18 : decode cX5_isPathComplete 18 = .ok (.bipush 20, 2) := by decide +kernel
theorem dX5_isPathComplete_20 : decode cX5_isPathComplete 20 = .ok (.if_icmp .ge 57, 3) := by decide +kernel
theorem dX5_isPathComplete_23 : decode cX5_isPathComplete 23 = .ok (.aload_n 0, 1) := by decide +kernel
theorem dX5_isPathComplete_24 : decode cX5_isPathComplete 24 = .ok (.getfield 10, 3) := by decide +kernel
theorem dX5_isPathComplete_27 : decode cX5_isPathComplete 27 = .ok (.iload_n 2, 1) := by decide +kernel
theorem dX5_isPathComplete_28 : decode cX5_isPathComplete 28 = .ok (.invokevirtual 59, 3) := by decide +kernel
theorem dX5_isPathComplete_31 : decode cX5_isPathComplete 31 = .ok (.ifCond .eq 46, 3) := by decide +kernel
theorem dX5_isPathComplete_34 : decode cX5_isPathComplete 34 = .ok (.aload_n 0, 1) := by decide +kernel
theorem dX5_isPathComplete_35 : decode cX5_isPathComplete 35 = .ok (.getfield 33, 3) := by decide +kernel
theorem dX5_isPathComplete_38 : decode cX5_isPathComplete 38 = .ok (.aload_n 0, 1) := by decide +kernel
theorem dX5_isPathComplete_39 : decode cX5_isPathComplete 39 = .ok (.getfield 10, 3) := by decide +kernel
theorem dX5_isPathComplete_42 : decode cX5_isPathComplete 42 = .ok (.iload_n 2, 1) := by decide +kernel
theorem dX5_isPathComplete_43 : decode cX5_isPathComplete 43 = .ok (.invokevirtual 79, 3) := by decide +kernel
theorem dX5_isPathComplete_46 : decode cX5_isPathComplete 46 = .ok (.aload_n 0, 1) := by decide +kernel
theorem dX5_isPathComplete_47 : decode cX5_isPathComplete 47 = .ok (.getfield 10, 3) := by decide +kernel
theorem dX5_isPathComplete_50 : decode cX5_isPathComplete 50 = .ok (.iload_n 2, 1) := by decide +kernel
theorem dX5_isPathComplete_51 : decode cX5_isPathComplete 51 = .ok (.invokevirtual 133, 3) := by decide +kernel
theorem dX5_isPathComplete_54 : decode cX5_isPathComplete 54 = .ok (.invokevirtual 136, 3) := by decide +kernel
theorem dX5_isPathComplete_57 : decode cX5_isPathComplete 57 = .ok (.ifCond .ne 5, 3) := by decide +kernel
theorem dX5_isPathComplete_60 : decode cX5_isPathComplete 60 = .ok (.iconst 0, 1) := by decide +kernel
theorem dX5_isPathComplete_61 : decode cX5_isPathComplete 61 = .ok (.ireturn, 1) := by decide +kernel
theorem dX5_isPathComplete_62 : decode cX5_isPathComplete 62 = .ok (.aload_n 0, 1) := by decide +kernel
theorem dX5_isPathComplete_63 : decode cX5_isPathComplete 63 = .ok (.getfield 10, 3) := by decide +kernel
theorem dX5_isPathComplete_66 : decode cX5_isPathComplete 66 = .ok (.iload_n 2, 1) := by decide +kernel
theorem dX5_isPathComplete_67 : decode cX5_isPathComplete 67 = .ok (.invokevirtual 139, 3) := by decide +kernel
theorem dX5_isPathComplete_70 : decode cX5_isPathComplete 70 = .ok (.istore_n 2, 1) := by decide +kernel
theorem dX5_isPathComplete_71 : decode cX5_isPathComplete 71 = .ok (.iinc 3 1, 3) := by decide +kernel
theorem dX5_isPathComplete_74 : decode cX5_isPathComplete 74 = .ok (.goto (-57), 3) := by decide +kernel
theorem dX5_isPathComplete_77 : decode cX5_isPathComplete 77 = .ok (.iconst 1, 1) := by decide +kernel
theorem dX5_isPathComplete_78 : decode cX5_isPathComplete 78 = .ok (.ireturn, 1) := by decide +kernel
set_option maxRecDepth 20000 in
theorem ggX5_packetsNeeded_X2_has : GoodIn wsX5_packetsNeeded wsX2_has := goodIn_r _ [7, 8, 9, 10, 11, 124, 125, 126, 127] (by decide +kernel) (by decide +kernel)
set_option maxRecDepth 20000 in
theorem gX5_packetsNeeded_X2_has : GoodIn wsX5_packetsNeeded (wsV RX5 59 RX2 yX2_has wsX2_has) := goodIn_app (goodIn_of _ (by decide +kernel)) ggX5_packetsNeeded_X2_has
set_option maxRecDepth 20000 in
theorem ggX5_packetsNeeded_X5_isFromOneTo : GoodIn wsX5_packetsNeeded wsX5_isFromOneTo := goodIn_r _ [14] (by decide +kernel) (by decide +kernel)
set_option maxRecDepth 20000 in
theorem gX5_packetsNeeded_X5_isFromOneTo : GoodIn wsX5_packetsNeeded (va_wsS RX5 91 yX5_isFromOneTo wsX5_isFromOneTo) := goodIn_app (goodIn_of _ (by decide +kernel)) ggX5_packetsNeeded_X5_isFromOneTo
set_option maxRecDepth 20000 in
theorem ggX5_packetsNeeded_X0_state : GoodIn wsX5_packetsNeeded wsX0_state := goodIn_r _ [19, 20, 128] (by decide +kernel) (by decide +kernel)
set_option maxRecDepth 20000 in
theorem gX5_packetsNeeded_X0_state : GoodIn wsX5_packetsNeeded (wsV RX5 142 RX0 yX0_state wsX0_state) := goodIn_app (goodIn_of _ (by decide +kernel)) ggX5_packetsNeeded_X0_state
set_option maxRecDepth 20000 in
theorem ggX5_packetsNeeded_X5_tryPackets : GoodIn wsX5_packetsNeeded wsX5_tryPackets := goodIn_r _ [24, 25, 1, 26, 27, 28, 29, 30, 31, 32, 33, 6, 34, 35, 36, 4, 5, 7, 8, 9, 10, 11, 37, 38, 39, 40, 41, 42, 43, 44, 45, 46, 47, 48, 49, 50, 51, 52, 53, 54, 3, 55, 56, 57, 58, 59, 60, 61, 62, 63, 64, 65, 66, 67, 68, 69, 70, 71, 72, 2, 73, 74, 75, 76, 18, 77, 20, 78, 79, 80, 81, 82, 83, 84, 85, 86, 87, 88, 89, 90, 91, 92, 93, 94, 95, 96, 97, 98, 99, 100, 101, 102, 103, 104, 105, 106, 107, 108, 109, 110, 111, 116, 117, 118, 119, 120, 121, 122, 123, 124, 125, 126, 127, 129, 130, 131, 132, 133, 128] (by decide +kernel) (by decide +kernel)
set_option maxRecDepth 20000 in
theorem gX5_packetsNeeded_X5_tryPackets : GoodIn wsX5_packetsNeeded (wsV RX5 145 RX5 yX5_tryPackets wsX5_tryPackets) := goodIn_app (goodIn_of _ (by decide +kernel)) ggX5_packetsNeeded_X5_tryPackets
set_option maxRecDepth 20000 in
theorem ggX5_packetsNeeded_X0_restart : GoodIn wsX5_packetsNeeded wsX0_restart := goodIn_r _ [115, 20, 128] (by decide +kernel) (by decide +kernel)
set_option maxRecDepth 20000 in
theorem gX5_packetsNeeded_X0_restart : GoodIn wsX5_packetsNeeded (wsV RX5 94 RX0 yX0_restart wsX0_restart) := goodIn_app (goodIn_of _ (by decide +kernel)) ggX5_packetsNeeded_X0_restart
theorem dX5_packetsNeeded_0 : decode cX5_packetsNeeded 0 = .ok (.aload_n 0, 1) := by decide +kernel
theorem dX5_packetsNeeded_1 : decode cX5_packetsNeeded 1 = .ok (.getfield 10, 3) := by decide +kernel
theorem dX5_packetsNeeded_4 : decode cX5_packetsNeeded 4 = .ok (.iload_n 1, 1) := by decide +kernel
theorem dX5_packetsNeeded_5 : decode cX5_packetsNeeded 5 = .ok (.invokevirtual 59, 3) := by decide +kernel
theorem dX5_packetsNeeded_8 : decode cX5_packetsNeeded 8 = .ok (.ifCond .ne 5, 3) := by decide +kernel
theorem dX5_packetsNeeded_11 : decode cX5_packetsNeeded 11 = .ok (.iconst (-1), 1) := by decide +kernel
theorem dX5_packetsNeeded_12 : decode cX5_packetsNeeded 12 = .ok (.ireturn, 1) := by decide +kernel
theorem dX5_packetsNeeded_13 : decode cX5_packetsNeeded 13 = .ok (.iload_n 2, 1) := by decide +kernel
theorem dX5_packetsNeeded_14 : decode cX5_packetsNeeded 14 = .ok (.sipush 2000, 3) := by decide +kernel
theorem dX5_packetsNeeded_17 : decode cX5_packetsNeeded 17 = .ok (.invokestatic 91, 3) := by decide +kernel
theorem dX5_packetsNeeded_20 : decode cX5_packetsNeeded 20 = .ok (.ifCond .ne 6, 3) := by decide +kernel
theorem dX5_packetsNeeded_23 : decode cX5_packetsNeeded 23 = .ok (.bipush (-2), 2) := by decide +kernel
theorem dX5_packetsNeeded_25 : decode cX5_packetsNeeded 25 = .ok (.ireturn, 1) := by decide +kernel
theorem dX5_packetsNeeded_26 : decode cX5_packetsNeeded 26 = .ok (.aload_n 0, 1) := by decide +kernel
theorem dX5_packetsNeeded_27 : decode cX5_packetsNeeded 27 = .ok (.getfield 19, 3) := by decide +kernel
theorem dX5_packetsNeeded_30 : decode cX5_packetsNeeded 30 = .ok (.invokevirtual 142, 3) := by decide +kernel
theorem dX5_packetsNeeded_33 : decode cX5_packetsNeeded 33 = .ok (.istore_n 3, 1) := by decide +kernel
theorem dX5_packetsNeeded_34 : decode cX5_packetsNeeded 34 = .ok (.aload_n 0, 1) := by decide +kernel
theorem dX5_packetsNeeded_35 : decode cX5_packetsNeeded 35 = .ok (.iload_n 1, 1) := by decide +kernel
theorem dX5_packetsNeeded_36 : decode cX5_packetsNeeded 36 = .ok (.iload_n 2, 1) := by decide +kernel
theorem dX5_packetsNeeded_37 : decode cX5_packetsNeeded 37 = .ok (.invokevirtual 145, 3) := by decide +kernel
theorem dX5_packetsNeeded_40 : decode cX5_packetsNeeded 40 = .ok (.istore 4, 2) := by decide +kernel
theorem dX5_packetsNeeded_42 : decode cX5_packetsNeeded 42 = .ok (.aload_n 0, 1) := by decide +kernel
theorem dX5_packetsNeeded_43 : decode cX5_packetsNeeded 43 = .ok (.getfield 19, 3) := by decide +kernel
theorem dX5_packetsNeeded_46 : decode cX5_packetsNeeded 46 = .ok (.iload_n 3, 1) := by decide +kernel
theorem dX5_packetsNeeded_47 : decode cX5_packetsNeeded 47 = .ok (.invokevirtual 94, 3) := by decide +kernel
theorem dX5_packetsNeeded_50 : decode cX5_packetsNeeded 50 = .ok (.pop, 1) := by decide +kernel
theorem dX5_packetsNeeded_51 : decode cX5_packetsNeeded 51 = .ok (.iload 4, 2) := by decide +kernel
theorem dX5_packetsNeeded_53 : decode cX5_packetsNeeded 53 = .ok (.ireturn, 1) := by decide +kernel
set_option maxRecDepth 20000 in
theorem ggX5_reconstruct_X3_clear : GoodIn wsX5_reconstruct wsX3_clear := goodIn_r _ [7, 8, 89, 90, 91, 92] (by decide +kernel) (by decide +kernel)
set_option maxRecDepth 20000 in
theorem gX5_reconstruct_X3_clear : GoodIn wsX5_reconstruct (wsV RX5 148 RX3 yX3_clear wsX3_clear) := goodIn_app (goodIn_of _ (by decide +kernel)) ggX5_reconstruct_X3_clear
set_option maxRecDepth 20000 in
theorem ggX5_reconstruct_X5_findTree : GoodIn wsX5_reconstruct wsX5_findTree := goodIn_r _ [13, 1, 14, 15, 16, 17, 6, 18, 8, 19, 20, 21, 22, 23, 24, 25, 26, 27, 28, 29, 30, 31, 32, 33, 34, 35, 36, 37, 38, 39, 40, 41, 12, 42, 43, 44, 45, 46, 47, 48, 49, 50, 51, 52, 53, 54, 55, 56, 57, 58, 59, 60, 61, 62, 63, 64, 65, 66, 67, 68, 69, 70, 71, 72, 73, 74, 75, 76, 77, 78, 79, 80, 81, 82, 83, 84, 85, 86, 87, 88, 89, 90, 91, 92, 93, 94, 95, 96] (by decide +kernel) (by decide +kernel)
set_option maxRecDepth 20000 in
theorem gX5_reconstruct_X5_findTree : GoodIn wsX5_reconstruct (wsV RX5 149 RX5 yX5_findTree wsX5_findTree) := goodIn_app (goodIn_of _ (by decide +kernel)) ggX5_reconstruct_X5_findTree
set_option maxRecDepth 20000 in
theorem ggX5_reconstruct_X3_size : GoodIn wsX5_reconstruct wsX3_size := goodIn_r _ [18, 8, 89, 90, 91, 92] (by decide +kernel) (by decide +kernel)
set_option maxRecDepth 20000 in
theorem gX5_reconstruct_X3_size : GoodIn wsX5_reconstruct (wsV RX5 152 RX3 yX3_size wsX3_size) := goodIn_app (goodIn_of _ (by decide +kernel)) ggX5_reconstruct_X3_size
theorem dX5_reconstruct_0 : decode cX5_reconstruct 0 = .ok (.aload_n 0, 1) := by decide +kernel
theorem dX5_reconstruct_1 : decode cX5_reconstruct 1 = .ok (.getfield 52, 3) := by decide +kernel
theorem dX5_reconstruct_4 : decode cX5_reconstruct 4 = .ok (.invokevirtual 148, 3) := by decide +kernel
theorem dX5_reconstruct_7 : decode cX5_reconstruct 7 = .ok (.aload_n 0, 1) := by decide +kernel
theorem dX5_reconstruct_8 : decode cX5_reconstruct 8 = .ok (.invokevirtual 149, 3) := by decide +kernel
theorem dX5_reconstruct_11 : decode cX5_reconstruct 11 = .ok (.ifCond .ne 6, 3) := by decide +kernel
theorem dX5_reconstruct_14 : decode cX5_reconstruct 14 = .ok (.bipush (-6), 2) := by decide +kernel
theorem dX5_reconstruct_16 : decode cX5_reconstruct 16 = .ok (.ireturn, 1) := by decide +kernel
theorem dX5_reconstruct_17 : decode cX5_reconstruct 17 = .ok (.aload_n 0, 1) := by decide +kernel
theorem dX5_reconstruct_18 : decode cX5_reconstruct 18 = .ok (.getfield 52, 3) := by decide +kernel
theorem dX5_reconstruct_21 : decode cX5_reconstruct 21 = .ok (.astore_n 1, 1) := by decide +kernel
theorem dX5_reconstruct_22 : decode cX5_reconstruct 22 = .ok (.aload_n 0, 1) := by decide +kernel
theorem dX5_reconstruct_23 : decode cX5_reconstruct 23 = .ok (.aload_n 0, 1) := by decide +kernel
theorem dX5_reconstruct_24 : decode cX5_reconstruct 24 = .ok (.getfield 48, 3) := by decide +kernel
theorem dX5_reconstruct_27 : decode cX5_reconstruct 27 = .ok (.putfield 52, 3) := by decide +kernel
theorem dX5_reconstruct_30 : decode cX5_reconstruct 30 = .ok (.aload_n 0, 1) := by decide +kernel
theorem dX5_reconstruct_31 : decode cX5_reconstruct 31 = .ok (.aload_n 1, 1) := by decide +kernel
theorem dX5_reconstruct_32 : decode cX5_reconstruct 32 = .ok (.putfield 48, 3) := by decide +kernel
theorem dX5_reconstruct_35 : decode cX5_reconstruct 35 = .ok (.aload_n 0, 1) := by decide +kernel
theorem dX5_reconstruct_36 : decode cX5_reconstruct 36 = .ok (.getfield 48, 3) := by decide +kernel
theorem dX5_reconstruct_39 : decode cX5_reconstruct 39 = .ok (.invokevirtual 152, 3) := by decide +kernel
theorem dX5_reconstruct_42 : decode cX5_reconstruct 42 = .ok (.ireturn, 1) := by decide +kernel
set_option maxRecDepth 20000 in
theorem ggX5_nodeCount_X3_size : GoodIn wsX5_nodeCount wsX3_size := goodIn_r _ [6, 7, 16, 17, 18, 19] (by decide +kernel) (by decide +kernel)
set_option maxRecDepth 20000 in
theorem gX5_nodeCount_X3_size : GoodIn wsX5_nodeCount (wsV RX5 152 RX3 yX3_size wsX3_size) := goodIn_app (goodIn_of _ (by decide +kernel)) ggX5_nodeCount_X3_size
theorem dX5_nodeCount_0 : decode cX5_nodeCount 0 = .ok (.aload_n 0, 1) := by decide +kernel
theorem dX5_nodeCount_1 : decode cX5_nodeCount 1 = .ok (.getfield 48, 3) := by decide +kernel
theorem dX5_nodeCount_4 : decode cX5_nodeCount 4 = .ok (.invokevirtual 152, 3) := by decide +kernel
theorem dX5_nodeCount_7 : decode cX5_nodeCount 7 = .ok (.ireturn, 1) := by decide +kernel
set_option maxRecDepth 20000 in
theorem ggX5_nodeAddress_X3_has : GoodIn wsX5_nodeAddress wsX3_has := goodIn_r _ [6, 7, 8, 9, 10, 25, 26, 27, 28] (by decide +kernel) (by decide +kernel)
set_option maxRecDepth 20000 in
theorem gX5_nodeAddress_X3_has : GoodIn wsX5_nodeAddress (wsV RX5 153 RX3 yX3_has wsX3_has) := goodIn_app (goodIn_of _ (by decide +kernel)) ggX5_nodeAddress_X3_has
set_option maxRecDepth 20000 in
theorem ggX5_nodeAddress_X3_addressOf : GoodIn wsX5_nodeAddress wsX3_addressOf := goodIn_r _ [14, 15, 16, 3, 4, 5, 6, 7, 8, 9, 10, 25, 26, 27, 28] (by decide +kernel) (by decide +kernel)
set_option maxRecDepth 20000 in
theorem gX5_nodeAddress_X3_addressOf : GoodIn wsX5_nodeAddress (wsV RX5 154 RX3 yX3_addressOf wsX3_addressOf) := goodIn_app (goodIn_of _ (by decide +kernel)) ggX5_nodeAddress_X3_addressOf
theorem dX5_nodeAddress_0 : decode cX5_nodeAddress 0 = .ok (.aload_n 0, 1) := by decide +kernel
theorem dX5_nodeAddress_1 : decode cX5_nodeAddress 1 = .ok (.getfield 48, 3) := by decide +kernel
theorem dX5_nodeAddress_4 : decode cX5_nodeAddress 4 = .ok (.iload_n 1, 1) := by decide +kernel
theorem dX5_nodeAddress_5 : decode cX5_nodeAddress 5 = .ok (.invokevirtual 153, 3) := by decide +kernel
theorem dX5_nodeAddress_8 : decode cX5_nodeAddress 8 = .ok (.ifCond .eq 14, 3) := by decide +kernel
theorem dX5_nodeAddress_11 : decode cX5_nodeAddress 11 = .ok (.aload_n 0, 1) := by decide +kernel
theorem dX5_nodeAddress_12 : decode cX5_nodeAddress 12 = .ok (.getfield 48, 3) := by decide +kernel
theorem dX5_nodeAddress_15 : decode cX5_nodeAddress 15 = .ok (.iload_n 1, 1) := by decide +kernel
theorem dX5_nodeAddress_16 : decode cX5_nodeAddress 16 = .ok (.invokevirtual 154, 3) := by decide +kernel
theorem dX5_nodeAddress_19 : decode cX5_nodeAddress 19 = .ok (.goto 5, 3) := by decide +kernel
theorem dX5_nodeAddress_22 : decode cX5_nodeAddress 22 = .ok (.bipush (-5), 2) := by decide +kernel
theorem dX5_nodeAddress_24 : decode cX5_nodeAddress 24 = .ok (.ireturn, 1) := by decide +kernel
set_option maxRecDepth 20000 in
theorem ggX5_nodeDistance_X3_has : GoodIn wsX5_nodeDistance wsX3_has := goodIn_r _ [6, 7, 8, 9, 10, 25, 26, 27, 28] (by decide +kernel) (by decide +kernel)
set_option maxRecDepth 20000 in
theorem gX5_nodeDistance_X3_has : GoodIn wsX5_nodeDistance (wsV RX5 153 RX3 yX3_has wsX3_has) := goodIn_app (goodIn_of _ (by decide +kernel)) ggX5_nodeDistance_X3_has
set_option maxRecDepth 20000 in
theorem ggX5_nodeDistance_X3_distanceOf : GoodIn wsX5_nodeDistance wsX3_distanceOf := goodIn_r _ [14, 15, 16, 3, 4, 5, 6, 7, 8, 9, 10, 25, 26, 27, 28] (by decide +kernel) (by decide +kernel)
set_option maxRecDepth 20000 in
theorem gX5_nodeDistance_X3_distanceOf : GoodIn wsX5_nodeDistance (wsV RX5 157 RX3 yX3_distanceOf wsX3_distanceOf) := goodIn_app (goodIn_of _ (by decide +kernel)) ggX5_nodeDistance_X3_distanceOf
theorem dX5_nodeDistance_0 : decode cX5_nodeDistance 0 = .ok (.aload_n 0, 1) := by decide +kernel
theorem dX5_nodeDistance_1 : decode cX5_nodeDistance 1 = .ok (.getfield 48, 3) := by decide +kernel
theorem dX5_nodeDistance_4 : decode cX5_nodeDistance 4 = .ok (.iload_n 1, 1) := by decide +kernel
theorem dX5_nodeDistance_5 : decode cX5_nodeDistance 5 = .ok (.invokevirtual 153, 3) := by decide +kernel
theorem dX5_nodeDistance_8 : decode cX5_nodeDistance 8 = .ok (.ifCond .eq 14, 3) := by decide +kernel
theorem dX5_nodeDistance_11 : decode cX5_nodeDistance 11 = .ok (.aload_n 0, 1) := by decide +kernel
theorem dX5_nodeDistance_12 : decode cX5_nodeDistance 12 = .ok (.getfield 48, 3) := by decide +kernel
theorem dX5_nodeDistance_15 : decode cX5_nodeDistance 15 = .ok (.iload_n 1, 1) := by decide +kernel
theorem dX5_nodeDistance_16 : decode cX5_nodeDistance 16 = .ok (.invokevirtual 157, 3) := by decide +kernel
theorem dX5_nodeDistance_19 : decode cX5_nodeDistance 19 = .ok (.goto 5, 3) := by decide +kernel
theorem dX5_nodeDistance_22 : decode cX5_nodeDistance 22 = .ok (.bipush (-5), 2) := by decide +kernel
theorem dX5_nodeDistance_24 : decode cX5_nodeDistance 24 = .ok (.ireturn, 1) := by decide +kernel
set_option maxRecDepth 20000 in
theorem ggX5_nodeParent_X3_has : GoodIn wsX5_nodeParent wsX3_has := goodIn_r _ [6, 7, 8, 9, 10, 25, 26, 27, 28] (by decide +kernel) (by decide +kernel)
set_option maxRecDepth 20000 in
theorem gX5_nodeParent_X3_has : GoodIn wsX5_nodeParent (wsV RX5 153 RX3 yX3_has wsX3_has) := goodIn_app (goodIn_of _ (by decide +kernel)) ggX5_nodeParent_X3_has
set_option maxRecDepth 20000 in
theorem ggX5_nodeParent_X3_parentOf : GoodIn wsX5_nodeParent wsX3_parentOf := goodIn_r _ [14, 15, 16, 3, 4, 5, 6, 7, 8, 9, 10, 25, 26, 27, 28] (by decide +kernel) (by decide +kernel)
set_option maxRecDepth 20000 in
theorem gX5_nodeParent_X3_parentOf : GoodIn wsX5_nodeParent (wsV RX5 160 RX3 yX3_parentOf wsX3_parentOf) := goodIn_app (goodIn_of _ (by decide +kernel)) ggX5_nodeParent_X3_parentOf
theorem dX5_nodeParent_0 : decode cX5_nodeParent 0 = .ok (.aload_n 0, 1) := by decide +kernel
theorem dX5_nodeParent_1 : decode cX5_nodeParent 1 = .ok (.getfield 48, 3) := by decide +kernel
theorem dX5_nodeParent_4 : decode cX5_nodeParent 4 = .ok (.iload_n 1, 1) := by decide +kernel
theorem dX5_nodeParent_5 : decode cX5_nodeParent 5 = .ok (.invokevirtual 153, 3) := by decide +kernel
theorem dX5_nodeParent_8 : decode cX5_nodeParent 8 = .ok (.ifCond .eq 14, 3) := by decide +kernel
theorem dX5_nodeParent_11 : decode cX5_nodeParent 11 = .ok (.aload_n 0, 1) := by decide +kernel
theorem dX5_nodeParent_12 : decode cX5_nodeParent 12 = .ok (.getfield 48, 3) := by decide +kernel
theorem dX5_nodeParent_15 : decode cX5_nodeParent 15 = .ok (.iload_n 1, 1) := by decide +kernel
theorem dX5_nodeParent_16 : decode cX5_nodeParent 16 = .ok (.invokevirtual 160, 3) := by decide +kernel
theorem dX5_nodeParent_19 : decode cX5_nodeParent 19 = .ok (.goto 5, 3) := by decide +kernel
theorem dX5_nodeParent_22 : decode cX5_nodeParent 22 = .ok (.bipush (-5), 2) := by decide +kernel
theorem dX5_nodeParent_24 : decode cX5_nodeParent 24 = .ok (.ireturn, 1) := by decide +kernel
set_option maxRecDepth 20000 in
theorem ggX5_nodeRouter_X3_has : GoodIn wsX5_nodeRouter wsX3_has := goodIn_r _ [6, 7, 8, 9, 10, 56, 57, 58, 59] (by decide +kernel) (by decide +kernel)
set_option maxRecDepth 20000 in
theorem gX5_nodeRouter_X3_has : GoodIn wsX5_nodeRouter (wsV RX5 153 RX3 yX3_has wsX3_has) := goodIn_app (goodIn_of _ (by decide +kernel)) ggX5_nodeRouter_X3_has
set_option maxRecDepth 20000 in
theorem ggX5_nodeRouter_X5_routerBehind : GoodIn wsX5_nodeRouter wsX5_routerBehind := goodIn_r _ [14, 15, 1, 16, 17, 18, 5, 19, 20, 21, 3, 4, 6, 7, 8, 9, 10, 22, 23, 24, 25, 26, 27, 28, 29, 30, 31, 32, 2, 33, 34, 35, 36, 37, 38, 39, 40, 41, 42, 43, 44, 45, 46, 47, 48, 49, 50, 51, 52, 53, 54, 55, 56, 57, 58, 59, 60, 61, 62, 63] (by decide +kernel) (by decide +kernel)
set_option maxRecDepth 20000 in
theorem gX5_nodeRouter_X5_routerBehind : GoodIn wsX5_nodeRouter (wsV RX5 161 RX5 yX5_routerBehind wsX5_routerBehind) := goodIn_app (goodIn_of _ (by decide +kernel)) ggX5_nodeRouter_X5_routerBehind
theorem dX5_nodeRouter_0 : decode cX5_nodeRouter 0 = .ok (.aload_n 0, 1) := by decide +kernel
theorem dX5_nodeRouter_1 : decode cX5_nodeRouter 1 = .ok (.getfield 48, 3) := by decide +kernel
theorem dX5_nodeRouter_4 : decode cX5_nodeRouter 4 = .ok (.iload_n 1, 1) := by decide +kernel
theorem dX5_nodeRouter_5 : decode cX5_nodeRouter 5 = .ok (.invokevirtual 153, 3) := by decide +kernel
theorem dX5_nodeRouter_8 : decode cX5_nodeRouter 8 = .ok (.ifCond .eq 11, 3) := by decide +kernel
theorem dX5_nodeRouter_11 : decode cX5_nodeRouter 11 = .ok (.aload_n 0, 1) := by decide +kernel
theorem dX5_nodeRouter_12 : decode cX5_nodeRouter 12 = .ok (.iload_n 1, 1) := by decide +kernel
theorem dX5_nodeRouter_13 : decode cX5_nodeRouter 13 = .ok (.invokevirtual 161, 3) := by decide +kernel
theorem dX5_nodeRouter_16 : decode cX5_nodeRouter 16 = .ok (.goto 5, 3) := by decide +kernel
theorem dX5_nodeRouter_19 : decode cX5_nodeRouter 19 = .ok (.bipush (-5), 2) := by decide +kernel
theorem dX5_nodeRouter_21 : decode cX5_nodeRouter 21 = .ok (.ireturn, 1) := by decide +kernel
set_option maxRecDepth 20000 in
theorem ggX5_falseNodeCount_X3_size : GoodIn wsX5_falseNodeCount wsX3_size := goodIn_r _ [6, 7, 60, 61, 62, 63] (by decide +kernel) (by decide +kernel)
set_option maxRecDepth 20000 in
theorem gX5_falseNodeCount_X3_size : GoodIn wsX5_falseNodeCount (wsV RX5 152 RX3 yX3_size wsX3_size) := goodIn_app (goodIn_of _ (by decide +kernel)) ggX5_falseNodeCount_X3_size
set_option maxRecDepth 20000 in
theorem ggX5_falseNodeCount_X5_routerBehind : GoodIn wsX5_falseNodeCount wsX5_routerBehind := goodIn_r _ [12, 13, 1, 14, 15, 16, 5, 17, 18, 19, 20, 21, 22, 7, 23, 11, 24, 25, 26, 27, 28, 29, 30, 31, 32, 33, 34, 35, 36, 37, 38, 39, 40, 41, 42, 43, 44, 45, 46, 47, 48, 49, 50, 51, 52, 53, 54, 55, 56, 57, 58, 59, 60, 61, 62, 63, 64, 65, 66, 67] (by decide +kernel) (by decide +kernel)
set_option maxRecDepth 20000 in
theorem gX5_falseNodeCount_X5_routerBehind : GoodIn wsX5_falseNodeCount (wsV RX5 161 RX5 yX5_routerBehind wsX5_routerBehind) := goodIn_app (goodIn_of _ (by decide +kernel)) ggX5_falseNodeCount_X5_routerBehind
theorem dX5_falseNodeCount_0 : decode cX5_falseNodeCount 0 = .ok (.iconst 0, 1) := by decide +kernel
theorem dX5_falseNodeCount_1 : decode cX5_falseNodeCount 1 = .ok (.istore_n 1, 1) := by decide +kernel
theorem dX5_falseNodeCount_2 : decode cX5_falseNodeCount 2 = .ok (.iconst 0, 1) := by decide +kernel
theorem dX5_falseNodeCount_3 : decode cX5_falseNodeCount 3 = .ok (.istore_n 2, 1) := by decide +kernel
theorem dX5_falseNodeCount_4 : decode cX5_falseNodeCount 4 = .ok (.iload_n 2, 1) := by decide +kernel
theorem dX5_falseNodeCount_5 : decode cX5_falseNodeCount 5 = .ok (.aload_n 0, 1) := by decide +kernel
theorem dX5_falseNodeCount_6 : decode cX5_falseNodeCount 6 = .ok (.getfield 48, 3) := by decide +kernel
theorem dX5_falseNodeCount_9 : decode cX5_falseNodeCount 9 = .ok (.invokevirtual 152, 3) := by decide +kernel
theorem dX5_falseNodeCount_12 : decode cX5_falseNodeCount 12 = .ok (.if_icmp .ge 22, 3) := by decide +kernel
theorem dX5_falseNodeCount_15 : decode cX5_falseNodeCount 15 = .ok (.aload_n 0, 1) := by decide +kernel
theorem dX5_falseNodeCount_16 : decode cX5_falseNodeCount 16 = .ok (.iload_n 2, 1) := by decide +kernel
theorem dX5_falseNodeCount_17 : decode cX5_falseNodeCount 17 = .ok (.invokevirtual 161, 3) := by decide +kernel
theorem dX5_falseNodeCount_20 : decode cX5_falseNodeCount 20 = .ok (.bipush (-7), 2) := by decide +kernel
theorem dX5_falseNodeCount_22 : decode cX5_falseNodeCount 22 = .ok (.if_icmp .ne 6, 3) := by decide +kernel
theorem dX5_falseNodeCount_25 : decode cX5_falseNodeCount 25 = .ok (.iinc 1 1, 3) := by decide +kernel
theorem dX5_falseNodeCount_28 : decode cX5_falseNodeCount 28 = .ok (.iinc 2 1, 3) := by decide +kernel
theorem dX5_falseNodeCount_31 : decode cX5_falseNodeCount 31 = .ok (.goto (-27), 3) := by decide +kernel
theorem dX5_falseNodeCount_34 : decode cX5_falseNodeCount 34 = .ok (.iload_n 1, 1) := by decide +kernel
theorem dX5_falseNodeCount_35 : decode cX5_falseNodeCount 35 = .ok (.ireturn, 1) := by decide +kernel
set_option maxRecDepth 20000 in
theorem ggX5_nodeOf_X2_has : GoodIn wsX5_nodeOf wsX2_has := goodIn_r _ [7, 8, 9, 10, 11, 60, 61, 62, 63] (by decide +kernel) (by decide +kernel)
set_option maxRecDepth 20000 in
theorem gX5_nodeOf_X2_has : GoodIn wsX5_nodeOf (wsV RX5 59 RX2 yX2_has wsX2_has) := goodIn_app (goodIn_of _ (by decide +kernel)) ggX5_nodeOf_X2_has
set_option maxRecDepth 20000 in
theorem ggX5_nodeOf_X3_size : GoodIn wsX5_nodeOf wsX3_size := goodIn_r _ [16, 17, 64, 65, 66, 67] (by decide +kernel) (by decide +kernel)
set_option maxRecDepth 20000 in
theorem gX5_nodeOf_X3_size : GoodIn wsX5_nodeOf (wsV RX5 152 RX3 yX3_size wsX3_size) := goodIn_app (goodIn_of _ (by decide +kernel)) ggX5_nodeOf_X3_size
set_option maxRecDepth 20000 in
theorem ggX5_nodeOf_X5_routerBehind : GoodIn wsX5_nodeOf wsX5_routerBehind := goodIn_r _ [21, 1, 2, 22, 23, 24, 15, 25, 26, 27, 28, 29, 30, 17, 9, 10, 11, 31, 32, 33, 6, 34, 8, 35, 3, 4, 5, 7, 36, 37, 38, 39, 40, 41, 42, 43, 44, 45, 46, 47, 48, 49, 50, 51, 52, 53, 54, 55, 56, 57, 58, 59, 64, 65, 66, 67, 60, 61, 62, 63] (by decide +kernel) (by decide +kernel)
set_option maxRecDepth 20000 in
theorem gX5_nodeOf_X5_routerBehind : GoodIn wsX5_nodeOf (wsV RX5 161 RX5 yX5_routerBehind wsX5_routerBehind) := goodIn_app (goodIn_of _ (by decide +kernel)) ggX5_nodeOf_X5_routerBehind
theorem dX5_nodeOf_0 : decode cX5_nodeOf 0 = .ok (.aload_n 0, 1) := by decide +kernel
theorem dX5_nodeOf_1 : decode cX5_nodeOf 1 = .ok (.getfield 10, 3) := by decide +kernel
theorem dX5_nodeOf_4 : decode cX5_nodeOf 4 = .ok (.iload_n 1, 1) := by decide +kernel
theorem dX5_nodeOf_5 : decode cX5_nodeOf 5 = .ok (.invokevirtual 59, 3) := by decide +kernel
theorem dX5_nodeOf_8 : decode cX5_nodeOf 8 = .ok (.ifCond .ne 5, 3) := by decide +kernel
theorem dX5_nodeOf_11 : decode cX5_nodeOf 11 = .ok (.iconst (-1), 1) := by decide +kernel
theorem dX5_nodeOf_12 : decode cX5_nodeOf 12 = .ok (.ireturn, 1) := by decide +kernel
theorem dX5_nodeOf_13 : decode cX5_nodeOf 13 = .ok (.iconst 0, 1) := by decide +kernel
theorem dX5_nodeOf_14 : decode cX5_nodeOf 14 = .ok (.istore_n 2, 1) := by decide +kernel
theorem dX5_nodeOf_15 : decode cX5_nodeOf 15 = .ok (.iload_n 2, 1) := by decide +kernel
theorem dX5_nodeOf_16 : decode cX5_nodeOf 16 = .ok (.aload_n 0, 1) := by decide +kernel
theorem dX5_nodeOf_17 : decode cX5_nodeOf 17 = .ok (.getfield 48, 3) := by decide +kernel
theorem dX5_nodeOf_20 : decode cX5_nodeOf 20 = .ok (.invokevirtual 152, 3) := by decide +kernel
theorem dX5_nodeOf_23 : decode cX5_nodeOf 23 = .ok (.if_icmp .ge 20, 3) := by decide +kernel
theorem dX5_nodeOf_26 : decode cX5_nodeOf 26 = .ok (.aload_n 0, 1) := by decide +kernel
theorem dX5_nodeOf_27 : decode cX5_nodeOf 27 = .ok (.iload_n 2, 1) := by decide +kernel
theorem dX5_nodeOf_28 : decode cX5_nodeOf 28 = .ok (.invokevirtual 161, 3) := by decide +kernel
theorem dX5_nodeOf_31 : decode cX5_nodeOf 31 = .ok (.iload_n 1, 1) := by decide +kernel
theorem dX5_nodeOf_32 : decode cX5_nodeOf 32 = .ok (.if_icmp .ne 5, 3) := by decide +kernel
theorem dX5_nodeOf_35 : decode cX5_nodeOf 35 = .ok (.iload_n 2, 1) := by decide +kernel
theorem dX5_nodeOf_36 : decode cX5_nodeOf 36 = .ok (.ireturn, 1) := by decide +kernel
theorem dX5_nodeOf_37 : decode cX5_nodeOf 37 = .ok (.iinc 2 1, 3) := by decide +kernel
theorem dX5_nodeOf_40 : decode cX5_nodeOf 40 = .ok (.goto (-25), 3) := by decide +kernel
theorem dX5_nodeOf_43 : decode cX5_nodeOf 43 = .ok (.bipush (-7), 2) := by decide +kernel
theorem dX5_nodeOf_45 : decode cX5_nodeOf 45 = .ok (.ireturn, 1) := by decide +kernel
theorem dX5_isBelow_0 : decode cX5_isBelow 0 = .ok (.iload_n 0, 1) := by decide +kernel
theorem dX5_isBelow_1 : decode cX5_isBelow 1 = .ok (.ifCond .lt 12, 3) := by decide +kernel
theorem dX5_isBelow_4 : decode cX5_isBelow 4 = .ok (.iload_n 0, 1) := by decide +kernel
theorem dX5_isBelow_5 : decode cX5_isBelow 5 = .ok (.iload_n 1, 1) := by decide +kernel
theorem dX5_isBelow_6 : decode cX5_isBelow 6 = .ok (.if_icmp .ge 7, 3) := by decide +kernel
theorem dX5_isBelow_9 : decode cX5_isBelow 9 = .ok (.iconst 1, 1) := by decide +kernel
theorem dX5_isBelow_10 : decode cX5_isBelow 10 = .ok (.goto 4, 3) := by decide +kernel
theorem dX5_isBelow_13 : decode cX5_isBelow 13 = .ok (.iconst 0, 1) := by decide +kernel
theorem dX5_isBelow_14 : decode cX5_isBelow 14 = .ok (.ireturn, 1) := by decide +kernel
theorem dX5_isFromOneTo_0 : decode cX5_isFromOneTo 0 = .ok (.iload_n 0, 1) := by decide +kernel
theorem dX5_isFromOneTo_1 : decode cX5_isFromOneTo 1 = .ok (.iconst 1, 1) := by decide +kernel
theorem dX5_isFromOneTo_2 : decode cX5_isFromOneTo 2 = .ok (.if_icmp .lt 12, 3) := by decide +kernel
theorem dX5_isFromOneTo_5 : decode cX5_isFromOneTo 5 = .ok (.iload_n 0, 1) := by decide +kernel
theorem dX5_isFromOneTo_6 : decode cX5_isFromOneTo 6 = .ok (.iload_n 1, 1) := by decide +kernel
theorem dX5_isFromOneTo_7 : decode cX5_isFromOneTo 7 = .ok (.if_icmp .gt 7, 3) := by decide +kernel
theorem dX5_isFromOneTo_10 : decode cX5_isFromOneTo 10 = .ok (.iconst 1, 1) := by decide +kernel
theorem dX5_isFromOneTo_11 : decode cX5_isFromOneTo 11 = .ok (.goto 4, 3) := by decide +kernel
theorem dX5_isFromOneTo_14 : decode cX5_isFromOneTo 14 = .ok (.iconst 0, 1) := by decide +kernel
theorem dX5_isFromOneTo_15 : decode cX5_isFromOneTo 15 = .ok (.ireturn, 1) := by decide +kernel
set_option maxRecDepth 20000 in
theorem ggX5_isMark_X5_isBelow : GoodIn wsX5_isMark wsX5_isBelow := goodIn_r _ [4] (by decide +kernel) (by decide +kernel)
set_option maxRecDepth 20000 in
theorem gX5_isMark_X5_isBelow : GoodIn wsX5_isMark (va_wsS RX5 63 yX5_isBelow wsX5_isBelow) := goodIn_app (goodIn_of _ (by decide +kernel)) ggX5_isMark_X5_isBelow
theorem dX5_isMark_0 : decode cX5_isMark 0 = .ok (.iload_n 0, 1) := by decide +kernel
theorem dX5_isMark_1 : decode cX5_isMark 1 = .ok (.bipush 32, 2) := by decide +kernel
theorem dX5_isMark_3 : decode cX5_isMark 3 = .ok (.invokestatic 63, 3) := by decide +kernel
theorem dX5_isMark_6 : decode cX5_isMark 6 = .ok (.ifCond .eq 24, 3) := by decide +kernel
theorem dX5_isMark_9 : decode cX5_isMark 9 = .ok (.iload_n 1, 1) := by decide +kernel
theorem dX5_isMark_10 : decode cX5_isMark 10 = .ok (.iconst 4, 1) := by decide +kernel
theorem dX5_isMark_11 : decode cX5_isMark 11 = .ok (.invokestatic 63, 3) := by decide +kernel
theorem dX5_isMark_14 : decode cX5_isMark 14 = .ok (.ifCond .eq 16, 3) := by decide +kernel
theorem dX5_isMark_17 : decode cX5_isMark 17 = .ok (.iload_n 2, 1) := by decide +kernel
theorem dX5_isMark_18 : decode cX5_isMark 18 = .ok (.bipush 32, 2) := by decide +kernel
theorem dX5_isMark_20 : decode cX5_isMark 20 = .ok (.invokestatic 63, 3) := by decide +kernel
theorem dX5_isMark_23 : decode cX5_isMark 23 = .ok (.ifCond .eq 7, 3) := by decide +kernel
theorem dX5_isMark_26 : decode cX5_isMark 26 = .ok (.iconst 1, 1) := by decide +kernel
theorem dX5_isMark_27 : decode cX5_isMark 27 = .ok (.goto 4, 3) := by decide +kernel
theorem dX5_isMark_30 : decode cX5_isMark 30 = .ok (.iconst 0, 1) := by decide +kernel
theorem dX5_isMark_31 : decode cX5_isMark 31 = .ok (.ireturn, 1) := by decide +kernel
theorem dX5_digestOf_0 : decode cX5_digestOf 0 = .ok (.iload_n 0, 1) := by decide +kernel
theorem dX5_digestOf_1 : decode cX5_digestOf 1 = .ok (.sipush 167, 3) := by decide +kernel
theorem dX5_digestOf_4 : decode cX5_digestOf 4 = .ok (.imul, 1) := by decide +kernel
theorem dX5_digestOf_5 : decode cX5_digestOf 5 = .ok (.bipush 29, 2) := by decide +kernel
theorem dX5_digestOf_7 : decode cX5_digestOf 7 = .ok (.iadd, 1) := by decide +kernel
theorem dX5_digestOf_8 : decode cX5_digestOf 8 = .ok (.iconst 3, 1) := by decide +kernel
theorem dX5_digestOf_9 : decode cX5_digestOf 9 = .ok (.ishr, 1) := by decide +kernel
theorem dX5_digestOf_10 : decode cX5_digestOf 10 = .ok (.iload_n 0, 1) := by decide +kernel
theorem dX5_digestOf_11 : decode cX5_digestOf 11 = .ok (.ixor, 1) := by decide +kernel
theorem dX5_digestOf_12 : decode cX5_digestOf 12 = .ok (.sipush 255, 3) := by decide +kernel
theorem dX5_digestOf_15 : decode cX5_digestOf 15 = .ok (.iand, 1) := by decide +kernel
theorem dX5_digestOf_16 : decode cX5_digestOf 16 = .ok (.ireturn, 1) := by decide +kernel
set_option maxRecDepth 20000 in
theorem ggX5_wordOf_X5_digestOf : GoodIn wsX5_wordOf wsX5_digestOf := goodIn_r _ [4] (by decide +kernel) (by decide +kernel)
set_option maxRecDepth 20000 in
theorem gX5_wordOf_X5_digestOf : GoodIn wsX5_wordOf (va_wsS RX5 82 yX5_digestOf wsX5_digestOf) := goodIn_app (goodIn_of _ (by decide +kernel)) ggX5_wordOf_X5_digestOf
theorem dX5_wordOf_0 : decode cX5_wordOf 0 = .ok (.iload_n 0, 1) := by decide +kernel
theorem dX5_wordOf_1 : decode cX5_wordOf 1 = .ok (.sipush 256, 3) := by decide +kernel
theorem dX5_wordOf_4 : decode cX5_wordOf 4 = .ok (.imul, 1) := by decide +kernel
theorem dX5_wordOf_5 : decode cX5_wordOf 5 = .ok (.iload_n 0, 1) := by decide +kernel
theorem dX5_wordOf_6 : decode cX5_wordOf 6 = .ok (.invokestatic 82, 3) := by decide +kernel
theorem dX5_wordOf_9 : decode cX5_wordOf 9 = .ok (.iadd, 1) := by decide +kernel
theorem dX5_wordOf_10 : decode cX5_wordOf 10 = .ok (.ireturn, 1) := by decide +kernel
theorem dX5_fragmentOf_0 : decode cX5_fragmentOf 0 = .ok (.iload_n 0, 1) := by decide +kernel
theorem dX5_fragmentOf_1 : decode cX5_fragmentOf 1 = .ok (.iload_n 1, 1) := by decide +kernel
theorem dX5_fragmentOf_2 : decode cX5_fragmentOf 2 = .ok (.iconst 5, 1) := by decide +kernel
theorem dX5_fragmentOf_3 : decode cX5_fragmentOf 3 = .ok (.imul, 1) := by decide +kernel
theorem dX5_fragmentOf_4 : decode cX5_fragmentOf 4 = .ok (.ishr, 1) := by decide +kernel
theorem dX5_fragmentOf_5 : decode cX5_fragmentOf 5 = .ok (.bipush 31, 2) := by decide +kernel
theorem dX5_fragmentOf_7 : decode cX5_fragmentOf 7 = .ok (.iand, 1) := by decide +kernel
theorem dX5_fragmentOf_8 : decode cX5_fragmentOf 8 = .ok (.ireturn, 1) := by decide +kernel
set_option maxRecDepth 20000 in
theorem ggX5_deliver_X5_carryToVictim : GoodIn wsX5_deliver wsX5_carryToVictim := goodIn_r _ [7, 8, 9, 10, 11, 12, 13, 14, 15, 6, 16, 17, 18, 19, 20, 21, 22, 23, 24, 25, 26, 27, 28, 29, 30, 31, 32, 33, 34, 35, 36, 37, 2, 38, 39, 40, 41, 42, 43, 44, 45, 46, 47, 48, 49, 50, 51, 52, 53, 54, 55, 56, 57, 58, 59, 60, 61, 62, 63, 64, 65, 66, 67, 68, 69, 70, 106, 107, 108, 109, 110, 111, 112, 113, 114, 115, 116, 117, 118, 119, 120, 121, 122, 123] (by decide +kernel) (by decide +kernel)
set_option maxRecDepth 20000 in
theorem gX5_deliver_X5_carryToVictim : GoodIn wsX5_deliver (wsV RX5 164 RX5 yX5_carryToVictim wsX5_carryToVictim) := goodIn_app (goodIn_of _ (by decide +kernel)) ggX5_deliver_X5_carryToVictim
set_option maxRecDepth 20000 in
theorem ggX5_deliver_X1_note : GoodIn wsX5_deliver wsX1_note := goodIn_r _ [75, 76, 77, 78, 79, 80, 81, 82, 51, 83, 53, 84, 85, 86, 87, 61, 88, 89, 90, 91, 59, 92, 93, 94, 95, 60, 96, 97, 74, 98, 99, 100, 101, 124, 125, 126, 127, 119, 120, 121, 122, 123] (by decide +kernel) (by decide +kernel)
set_option maxRecDepth 20000 in
theorem gX5_deliver_X1_note : GoodIn wsX5_deliver (wsV RX5 168 RX1 yX1_note wsX1_note) := goodIn_app (goodIn_of _ (by decide +kernel)) ggX5_deliver_X1_note
set_option maxRecDepth 20000 in
theorem ggX5_deliver_X4_isMarkedByRouter : GoodIn wsX5_deliver wsX4_isMarkedByRouter := goodIn_r _ [105, 54, 119, 120, 121, 122, 123] (by decide +kernel) (by decide +kernel)
set_option maxRecDepth 20000 in
theorem gX5_deliver_X4_isMarkedByRouter : GoodIn wsX5_deliver (wsV RX5 172 RX4 yX4_isMarkedByRouter wsX4_isMarkedByRouter) := goodIn_app (goodIn_of _ (by decide +kernel)) ggX5_deliver_X4_isMarkedByRouter
theorem dX5_deliver_0 : decode cX5_deliver 0 = .ok (.aload_n 0, 1) := by decide +kernel
theorem dX5_deliver_1 : decode cX5_deliver 1 = .ok (.iload_n 1, 1) := by decide +kernel
theorem dX5_deliver_2 : decode cX5_deliver 2 = .ok (.invokevirtual 164, 3) := by decide +kernel
theorem dX5_deliver_5 : decode cX5_deliver 5 = .ok (.aload_n 0, 1) := by decide +kernel
theorem dX5_deliver_6 : decode cX5_deliver 6 = .ok (.getfield 33, 3) := by decide +kernel
theorem dX5_deliver_9 : decode cX5_deliver 9 = .ok (.aload_n 0, 1) := by decide +kernel
theorem dX5_deliver_10 : decode cX5_deliver 10 = .ok (.getfield 26, 3) := by decide +kernel
theorem dX5_deliver_13 : decode cX5_deliver 13 = .ok (.invokevirtual 168, 3) := by decide +kernel
theorem dX5_deliver_16 : decode cX5_deliver 16 = .ok (.aload_n 0, 1) := by decide +kernel
theorem dX5_deliver_17 : decode cX5_deliver 17 = .ok (.getfield 26, 3) := by decide +kernel
theorem dX5_deliver_20 : decode cX5_deliver 20 = .ok (.invokevirtual 172, 3) := by decide +kernel
theorem dX5_deliver_23 : decode cX5_deliver 23 = .ok (.ifCond .eq 7, 3) := by decide +kernel
theorem dX5_deliver_26 : decode cX5_deliver 26 = .ok (.iconst 1, 1) := by decide +kernel
theorem dX5_deliver_27 : decode cX5_deliver 27 = .ok (.goto 4, 3) := by decide +kernel
theorem dX5_deliver_30 : decode cX5_deliver 30 = .ok (.iconst 0, 1) := by decide +kernel
theorem dX5_deliver_31 : decode cX5_deliver 31 = .ok (.ireturn, 1) := by decide +kernel
set_option maxRecDepth 20000 in
theorem ggX5_carryToVictim_X2_has : GoodIn wsX5_carryToVictim wsX2_has := goodIn_r _ [6, 7, 8, 9, 10, 74, 75, 76, 77] (by decide +kernel) (by decide +kernel)
set_option maxRecDepth 20000 in
theorem gX5_carryToVictim_X2_has : GoodIn wsX5_carryToVictim (wsV RX5 59 RX2 yX2_has wsX2_has) := goodIn_app (goodIn_of _ (by decide +kernel)) ggX5_carryToVictim_X2_has
set_option maxRecDepth 20000 in
theorem ggX5_carryToVictim_X2_wordAt : GoodIn wsX5_carryToVictim wsX2_wordAt := goodIn_r _ [14, 15, 16, 17, 5, 18, 19, 20, 3, 4, 6, 7, 8, 9, 10, 21, 22, 23, 24, 25, 74, 75, 76, 77] (by decide +kernel) (by decide +kernel)
set_option maxRecDepth 20000 in
theorem gX5_carryToVictim_X2_wordAt : GoodIn wsX5_carryToVictim (wsV RX5 175 RX2 yX2_wordAt wsX2_wordAt) := goodIn_app (goodIn_of _ (by decide +kernel)) ggX5_carryToVictim_X2_wordAt
set_option maxRecDepth 20000 in
theorem ggX5_carryToVictim_X5_passRouter : GoodIn wsX5_carryToVictim wsX5_passRouter := goodIn_r _ [29, 30, 31, 32, 33, 34, 35, 36, 37, 38, 39, 40, 41, 9, 42, 43, 44, 45, 46, 47, 48, 49, 50, 51, 52, 53, 54, 55, 56, 57, 58, 59, 60, 66, 67, 68, 69, 70, 71, 72, 73, 78, 79, 80, 81, 82, 83] (by decide +kernel) (by decide +kernel)
set_option maxRecDepth 20000 in
theorem gX5_carryToVictim_X5_passRouter : GoodIn wsX5_carryToVictim (wsV RX5 178 RX5 yX5_passRouter wsX5_passRouter) := goodIn_app (goodIn_of _ (by decide +kernel)) ggX5_carryToVictim_X5_passRouter
set_option maxRecDepth 20000 in
theorem ggX5_carryToVictim_X2_parentOf : GoodIn wsX5_carryToVictim wsX2_parentOf := goodIn_r _ [64, 65, 20, 3, 4, 5, 6, 7, 8, 9, 10, 74, 75, 76, 77] (by decide +kernel) (by decide +kernel)
set_option maxRecDepth 20000 in
theorem gX5_carryToVictim_X2_parentOf : GoodIn wsX5_carryToVictim (wsV RX5 139 RX2 yX2_parentOf wsX2_parentOf) := goodIn_app (goodIn_of _ (by decide +kernel)) ggX5_carryToVictim_X2_parentOf
theorem dX5_carryToVictim_0 : decode cX5_carryToVictim 0 = .ok (.iload_n 1, 1) := by decide +kernel
theorem dX5_carryToVictim_1 : decode cX5_carryToVictim 1 = .ok (.istore_n 2, 1) := by decide +kernel
theorem dX5_carryToVictim_2 : decode cX5_carryToVictim 2 = .ok (.iconst 0, 1) := by decide +kernel
theorem dX5_carryToVictim_3 : decode cX5_carryToVictim 3 = .ok (.istore_n 3, 1) := by decide +kernel
theorem dX5_carryToVictim_4 : decode cX5_carryToVictim 4 = .ok (.iload_n 3, 1) := by decide +kernel
theorem dX5_carryToVictim_5 : decode cX5_carryToVictim 5 = .ok (.bipush 20, 2) := by decide +kernel
theorem dX5_carryToVictim_7 : decode cX5_carryToVictim 7 = .ok (.if_icmp .ge 41, 3) := by decide +kernel
theorem dX5_carryToVictim_10 : decode cX5_carryToVictim 10 = .ok (.aload_n 0, 1) := by decide +kernel
theorem dX5_carryToVictim_11 : decode cX5_carryToVictim 11 = .ok (.getfield 10, 3) := by decide +kernel
theorem dX5_carryToVictim_14 : decode cX5_carryToVictim 14 = .ok (.iload_n 2, 1) := by decide +kernel
theorem dX5_carryToVictim_15 : decode cX5_carryToVictim 15 = .ok (.invokevirtual 59, 3) := by decide +kernel
theorem dX5_carryToVictim_18 : decode cX5_carryToVictim 18 = .ok (.ifCond .eq 30, 3) := by decide +kernel
theorem dX5_carryToVictim_21 : decode cX5_carryToVictim 21 = .ok (.aload_n 0, 1) := by decide +kernel
theorem dX5_carryToVictim_22 : decode cX5_carryToVictim 22 = .ok (.aload_n 0, 1) := by decide +kernel
theorem dX5_carryToVictim_23 : decode cX5_carryToVictim 23 = .ok (.getfield 10, 3) := by decide +kernel
theorem dX5_carryToVictim_26 : decode cX5_carryToVictim 26 = .ok (.iload_n 2, 1) := by decide +kernel
theorem dX5_carryToVictim_27 : decode cX5_carryToVictim 27 = .ok (.invokevirtual 175, 3) := by decide +kernel
theorem dX5_carryToVictim_30 : decode cX5_carryToVictim 30 = .ok (.invokevirtual 178, 3) := by decide +kernel
theorem dX5_carryToVictim_33 : decode cX5_carryToVictim 33 = .ok (.aload_n 0, 1) := by decide +kernel
theorem dX5_carryToVictim_34 : decode cX5_carryToVictim 34 = .ok (.getfield 10, 3) := by decide +kernel
theorem dX5_carryToVictim_37 : decode cX5_carryToVictim 37 = .ok (.iload_n 2, 1) := by decide +kernel
theorem dX5_carryToVictim_38 : decode cX5_carryToVictim 38 = .ok (.invokevirtual 139, 3) := by decide +kernel
theorem dX5_carryToVictim_41 : decode cX5_carryToVictim 41 = .ok (.istore_n 2, 1) := by decide +kernel
theorem dX5_carryToVictim_42 : decode cX5_carryToVictim 42 = .ok (.iinc 3 1, 3) := by decide +kernel
theorem dX5_carryToVictim_45 : decode cX5_carryToVictim 45 = .ok (.goto (-41), 3) := by decide +kernel
theorem dX5_carryToVictim_48 : decode cX5_carryToVictim 48 = .ok (.return_, 1) := by decide +kernel
set_option maxRecDepth 20000 in
theorem ggX5_passRouter_X0_draw : GoodIn wsX5_passRouter wsX0_draw := goodIn_r _ [8, 9, 10, 41] (by decide +kernel) (by decide +kernel)
set_option maxRecDepth 20000 in
theorem gX5_passRouter_X0_draw : GoodIn wsX5_passRouter (wsV RX5 181 RX0 yX0_draw wsX0_draw) := goodIn_app (goodIn_of _ (by decide +kernel)) ggX5_passRouter_X0_draw
set_option maxRecDepth 20000 in
theorem ggX5_passRouter_X5_fragmentOf : GoodIn wsX5_passRouter wsX5_fragmentOf := goodIn_r _ [14] (by decide +kernel) (by decide +kernel)
set_option maxRecDepth 20000 in
theorem gX5_passRouter_X5_fragmentOf : GoodIn wsX5_passRouter (va_wsS RX5 88 yX5_fragmentOf wsX5_fragmentOf) := goodIn_app (goodIn_of _ (by decide +kernel)) ggX5_passRouter_X5_fragmentOf
set_option maxRecDepth 20000 in
theorem ggX5_passRouter_X4_takeMark : GoodIn wsX5_passRouter wsX4_takeMark := goodIn_r _ [19, 20, 21, 22, 23, 24, 18, 25, 26, 27, 28, 42, 43, 44, 45, 46] (by decide +kernel) (by decide +kernel)
set_option maxRecDepth 20000 in
theorem gX5_passRouter_X4_takeMark : GoodIn wsX5_passRouter (wsV RX5 184 RX4 yX4_takeMark wsX4_takeMark) := goodIn_app (goodIn_of _ (by decide +kernel)) ggX5_passRouter_X4_takeMark
set_option maxRecDepth 20000 in
theorem ggX5_passRouter_X4_goOn : GoodIn wsX5_passRouter wsX4_goOn := goodIn_r _ [32, 20, 26, 28, 27, 12, 13, 14, 42, 43, 44, 45, 46] (by decide +kernel) (by decide +kernel)
set_option maxRecDepth 20000 in
theorem gX5_passRouter_X4_goOn : GoodIn wsX5_passRouter (wsV RX5 188 RX4 yX4_goOn wsX4_goOn) := goodIn_app (goodIn_of _ (by decide +kernel)) ggX5_passRouter_X4_goOn
theorem dX5_passRouter_0 : decode cX5_passRouter 0 = .ok (.aload_n 0, 1) := by decide +kernel
theorem dX5_passRouter_1 : decode cX5_passRouter 1 = .ok (.getfield 19, 3) := by decide +kernel
theorem dX5_passRouter_4 : decode cX5_passRouter 4 = .ok (.invokevirtual 181, 3) := by decide +kernel
theorem dX5_passRouter_7 : decode cX5_passRouter 7 = .ok (.bipush 100, 2) := by decide +kernel
theorem dX5_passRouter_9 : decode cX5_passRouter 9 = .ok (.irem, 1) := by decide +kernel
theorem dX5_passRouter_10 : decode cX5_passRouter 10 = .ok (.aload_n 0, 1) := by decide +kernel
theorem dX5_passRouter_11 : decode cX5_passRouter 11 = .ok (.getfield 41, 3) := by decide +kernel
theorem dX5_passRouter_14 : decode cX5_passRouter 14 = .ok (.if_icmp .ge 29, 3) := by decide +kernel
theorem dX5_passRouter_17 : decode cX5_passRouter 17 = .ok (.aload_n 0, 1) := by decide +kernel
theorem dX5_passRouter_18 : decode cX5_passRouter 18 = .ok (.getfield 19, 3) := by decide +kernel
theorem dX5_passRouter_21 : decode cX5_passRouter 21 = .ok (.invokevirtual 181, 3) := by decide +kernel
theorem dX5_passRouter_24 : decode cX5_passRouter 24 = .ok (.iconst 4, 1) := by decide +kernel
theorem dX5_passRouter_25 : decode cX5_passRouter 25 = .ok (.irem, 1) := by decide +kernel
theorem dX5_passRouter_26 : decode cX5_passRouter 26 = .ok (.istore_n 2, 1) := by decide +kernel
theorem dX5_passRouter_27 : decode cX5_passRouter 27 = .ok (.aload_n 0, 1) := by decide +kernel
theorem dX5_passRouter_28 : decode cX5_passRouter 28 = .ok (.getfield 26, 3) := by decide +kernel
theorem dX5_passRouter_31 : decode cX5_passRouter 31 = .ok (.iload_n 2, 1) := by decide +kernel
theorem dX5_passRouter_32 : decode cX5_passRouter 32 = .ok (.iload_n 1, 1) := by decide +kernel
theorem dX5_passRouter_33 : decode cX5_passRouter 33 = .ok (.iload_n 2, 1) := by decide +kernel
theorem dX5_passRouter_34 : decode cX5_passRouter 34 = .ok (.invokestatic 88, 3) := by decide +kernel
theorem dX5_passRouter_37 : decode cX5_passRouter 37 = .ok (.invokevirtual 184, 3) := by decide +kernel
theorem dX5_passRouter_40 : decode cX5_passRouter 40 = .ok (.goto 11, 3) := by decide +kernel
theorem dX5_passRouter_43 : decode cX5_passRouter 43 = .ok (.aload_n 0, 1) := by decide +kernel
theorem dX5_passRouter_44 : decode cX5_passRouter 44 = .ok (.getfield 26, 3) := by decide +kernel
theorem dX5_passRouter_47 : decode cX5_passRouter 47 = .ok (.iload_n 1, 1) := by decide +kernel
theorem dX5_passRouter_48 : decode cX5_passRouter 48 = .ok (.invokevirtual 188, 3) := by decide +kernel
theorem dX5_passRouter_51 : decode cX5_passRouter 51 = .ok (.return_, 1) := by decide +kernel
set_option maxRecDepth 20000 in
theorem ggX5_tryPackets_J7_fill_53178 : GoodIn wsX5_tryPackets wsJ7_fill_53178 := goodIn_r _ [7] (by decide +kernel) (by decide +kernel)
set_option maxRecDepth 20000 in
theorem gX5_tryPackets_J7_fill_53178 : GoodIn wsX5_tryPackets (va_wsS RX5 191 yJ7_fill_53178 wsJ7_fill_53178) := goodIn_app (goodIn_of _ (by decide +kernel)) ggX5_tryPackets_J7_fill_53178
set_option maxRecDepth 20000 in
theorem ggX5_tryPackets_X2_depthOf : GoodIn wsX5_tryPackets wsX2_depthOf := goodIn_r _ [12, 13, 14, 15, 16, 11, 17, 18, 19, 20, 21, 109, 110, 111, 112] (by decide +kernel) (by decide +kernel)
set_option maxRecDepth 20000 in
theorem gX5_tryPackets_X2_depthOf : GoodIn wsX5_tryPackets (wsV RX5 79 RX2 yX2_depthOf wsX2_depthOf) := goodIn_app (goodIn_of _ (by decide +kernel)) ggX5_tryPackets_X2_depthOf
set_option maxRecDepth 20000 in
theorem ggX5_tryPackets_X4_startUnmarked : GoodIn wsX5_tryPackets wsX4_startUnmarked := goodIn_r _ [26, 27, 28, 29, 30, 31, 25, 32, 33, 34, 35, 113, 114, 115, 116, 117] (by decide +kernel) (by decide +kernel)
set_option maxRecDepth 20000 in
theorem gX5_tryPackets_X4_startUnmarked : GoodIn wsX5_tryPackets (wsV RX5 103 RX4 yX4_startUnmarked wsX4_startUnmarked) := goodIn_app (goodIn_of _ (by decide +kernel)) ggX5_tryPackets_X4_startUnmarked
set_option maxRecDepth 20000 in
theorem ggX5_tryPackets_X5_carryToVictim : GoodIn wsX5_tryPackets wsX5_carryToVictim := goodIn_r _ [39, 2, 40, 15, 16, 11, 17, 18, 19, 20, 21, 41, 42, 43, 44, 45, 46, 47, 48, 49, 14, 50, 51, 52, 53, 54, 55, 56, 57, 58, 59, 60, 3, 61, 62, 63, 64, 65, 66, 67, 68, 69, 70, 71, 72, 73, 25, 74, 27, 28, 29, 30, 31, 32, 33, 34, 35, 75, 76, 77, 78, 79, 80, 81, 82, 83, 101, 102, 103, 104, 105, 106, 107, 108, 109, 110, 111, 112, 118, 113, 114, 115, 116, 117] (by decide +kernel) (by decide +kernel)
set_option maxRecDepth 20000 in
theorem gX5_tryPackets_X5_carryToVictim : GoodIn wsX5_tryPackets (wsV RX5 164 RX5 yX5_carryToVictim wsX5_carryToVictim) := goodIn_app (goodIn_of _ (by decide +kernel)) ggX5_tryPackets_X5_carryToVictim
set_option maxRecDepth 20000 in
theorem ggX5_tryPackets_X5_isNewOnPath : GoodIn wsX5_tryPackets wsX5_isNewOnPath := goodIn_r _ [87, 3, 1, 88, 89, 90, 25, 91, 33, 92, 93, 94, 95, 28, 96, 19, 20, 21, 97, 98, 99, 100, 34, 101, 102, 103, 104, 105, 106, 107, 108, 113, 114, 115, 116, 117] (by decide +kernel) (by decide +kernel)
set_option maxRecDepth 20000 in
theorem gX5_tryPackets_X5_isNewOnPath : GoodIn wsX5_tryPackets (wsV RX5 197 RX5 yX5_isNewOnPath wsX5_isNewOnPath) := goodIn_app (goodIn_of _ (by decide +kernel)) ggX5_tryPackets_X5_isNewOnPath
theorem dX5_tryPackets_0 : decode cX5_tryPackets 0 = .ok (.aload_n 0, 1) := by decide +kernel
theorem dX5_tryPackets_1 : decode cX5_tryPackets 1 = .ok (.getfield 37, 3) := by decide +kernel
theorem dX5_tryPackets_4 : decode cX5_tryPackets 4 = .ok (.iconst 0, 1) := by decide +kernel
theorem dX5_tryPackets_5 : decode cX5_tryPackets 5 = .ok (.invokestatic 191, 3) := by decide +kernel
theorem dX5_tryPackets_8 : decode cX5_tryPackets 8 = .ok (.aload_n 0, 1) := by decide +kernel
theorem dX5_tryPackets_9 : decode cX5_tryPackets 9 = .ok (.getfield 10, 3) := by decide +kernel
theorem dX5_tryPackets_12 : decode cX5_tryPackets 12 = .ok (.iload_n 1, 1) := by decide +kernel
theorem dX5_tryPackets_13 : decode cX5_tryPackets 13 = .ok (.invokevirtual 79, 3) := by decide +kernel
theorem dX5_tryPackets_16 : decode cX5_tryPackets 16 = .ok (.iconst 1, 1) := by decide +kernel
theorem dX5_tryPackets_17 : decode cX5_tryPackets 17 = .ok (.iadd, 1) := by decide +kernel
theorem dX5_tryPackets_18 : decode cX5_tryPackets 18 = .ok (.iconst 4, 1) := by decide +kernel
theorem dX5_tryPackets_19 : decode cX5_tryPackets 19 = .ok (.imul, 1) := by decide +kernel
theorem dX5_tryPackets_20 : decode cX5_tryPackets 20 = .ok (.istore_n 3, 1) := by decide +kernel
theorem dX5_tryPackets_21 : decode cX5_tryPackets 21 = .ok (.iconst 1, 1) := by decide +kernel
theorem dX5_tryPackets_22 : decode cX5_tryPackets 22 = .ok (.istore 4, 2) := by decide +kernel
theorem dX5_tryPackets_24 : decode cX5_tryPackets 24 = .ok (.iload 4, 2) := by decide +kernel
theorem dX5_tryPackets_26 : decode cX5_tryPackets 26 = .ok (.iload_n 2, 1) := by decide +kernel
theorem dX5_tryPackets_27 : decode cX5_tryPackets 27 = .ok (.if_icmp .gt 38, 3) := by decide +kernel
theorem dX5_tryPackets_30 : decode cX5_tryPackets 30 = .ok (.aload_n 0, 1) := by decide +kernel
theorem dX5_tryPackets_31 : decode cX5_tryPackets 31 = .ok (.getfield 26, 3) := by decide +kernel
theorem dX5_tryPackets_34 : decode cX5_tryPackets 34 = .ok (.invokevirtual 103, 3) := by decide +kernel
theorem dX5_tryPackets_37 : decode cX5_tryPackets 37 = .ok (.aload_n 0, 1) := by decide +kernel
theorem dX5_tryPackets_38 : decode cX5_tryPackets 38 = .ok (.iload_n 1, 1) := by decide +kernel
theorem dX5_tryPackets_39 : decode cX5_tryPackets 39 = .ok (.invokevirtual 164, 3) := by decide +kernel
theorem dX5_tryPackets_42 : decode cX5_tryPackets 42 = .ok (.aload_n 0, 1) := by decide +kernel
theorem dX5_tryPackets_43 : decode cX5_tryPackets 43 = .ok (.invokevirtual 197, 3) := by decide +kernel
theorem dX5_tryPackets_46 : decode cX5_tryPackets 46 = .ok (.ifCond .eq 6, 3) := by decide +kernel
theorem dX5_tryPackets_49 : decode cX5_tryPackets 49 = .ok (.iinc 3 (-1), 3) := by decide +kernel
theorem dX5_tryPackets_52 : decode cX5_tryPackets 52 = .ok (.iload_n 3, 1) := by decide +kernel
theorem dX5_tryPackets_53 : decode cX5_tryPackets 53 = .ok (.ifCond .ne 6, 3) := by decide +kernel
theorem dX5_tryPackets_56 : decode cX5_tryPackets 56 = .ok (.iload 4, 2) := by decide +kernel
theorem dX5_tryPackets_58 : decode cX5_tryPackets 58 = .ok (.ireturn, 1) := by decide +kernel
theorem dX5_tryPackets_59 : decode cX5_tryPackets 59 = .ok (.iinc 4 1, 3) := by decide +kernel
theorem dX5_tryPackets_62 : decode cX5_tryPackets 62 = .ok (.goto (-38), 3) := by decide +kernel
theorem dX5_tryPackets_65 : decode cX5_tryPackets 65 = .ok (.bipush (-7), 2) := by decide +kernel
theorem dX5_tryPackets_67 : decode cX5_tryPackets 67 = .ok (.ireturn, 1) := by decide +kernel
set_option maxRecDepth 20000 in
theorem ggX5_isNewOnPath_X4_distance : GoodIn wsX5_isNewOnPath wsX4_distance := goodIn_r _ [7, 8, 31, 32, 33, 34, 35] (by decide +kernel) (by decide +kernel)
set_option maxRecDepth 20000 in
theorem gX5_isNewOnPath_X4_distance : GoodIn wsX5_isNewOnPath (wsV RX5 200 RX4 yX4_distance wsX4_distance) := goodIn_app (goodIn_of _ (by decide +kernel)) ggX5_isNewOnPath_X4_distance
set_option maxRecDepth 20000 in
theorem ggX5_isNewOnPath_X4_isMarkedByRouter : GoodIn wsX5_isNewOnPath wsX4_isMarkedByRouter := goodIn_r _ [12, 13, 31, 32, 33, 34, 35] (by decide +kernel) (by decide +kernel)
set_option maxRecDepth 20000 in
theorem gX5_isNewOnPath_X4_isMarkedByRouter : GoodIn wsX5_isNewOnPath (wsV RX5 172 RX4 yX4_isMarkedByRouter wsX4_isMarkedByRouter) := goodIn_app (goodIn_of _ (by decide +kernel)) ggX5_isNewOnPath_X4_isMarkedByRouter
set_option maxRecDepth 20000 in
theorem ggX5_isNewOnPath_X5_isBelow : GoodIn wsX5_isNewOnPath wsX5_isBelow := goodIn_r _ [17] (by decide +kernel) (by decide +kernel)
set_option maxRecDepth 20000 in
theorem gX5_isNewOnPath_X5_isBelow : GoodIn wsX5_isNewOnPath (va_wsS RX5 63 yX5_isBelow wsX5_isBelow) := goodIn_app (goodIn_of _ (by decide +kernel)) ggX5_isNewOnPath_X5_isBelow
set_option maxRecDepth 20000 in
theorem ggX5_isNewOnPath_X4_offset : GoodIn wsX5_isNewOnPath wsX4_offset := goodIn_r _ [21, 22, 31, 32, 33, 34, 35] (by decide +kernel) (by decide +kernel)
set_option maxRecDepth 20000 in
theorem gX5_isNewOnPath_X4_offset : GoodIn wsX5_isNewOnPath (wsV RX5 203 RX4 yX4_offset wsX4_offset) := goodIn_app (goodIn_of _ (by decide +kernel)) ggX5_isNewOnPath_X4_offset
theorem dX5_isNewOnPath_0 : decode cX5_isNewOnPath 0 = .ok (.aload_n 0, 1) := by decide +kernel
theorem dX5_isNewOnPath_1 : decode cX5_isNewOnPath 1 = .ok (.getfield 26, 3) := by decide +kernel
theorem dX5_isNewOnPath_4 : decode cX5_isNewOnPath 4 = .ok (.invokevirtual 200, 3) := by decide +kernel
theorem dX5_isNewOnPath_7 : decode cX5_isNewOnPath 7 = .ok (.istore_n 1, 1) := by decide +kernel
theorem dX5_isNewOnPath_8 : decode cX5_isNewOnPath 8 = .ok (.aload_n 0, 1) := by decide +kernel
theorem dX5_isNewOnPath_9 : decode cX5_isNewOnPath 9 = .ok (.getfield 26, 3) := by decide +kernel
theorem dX5_isNewOnPath_12 : decode cX5_isNewOnPath 12 = .ok (.invokevirtual 172, 3) := by decide +kernel
theorem dX5_isNewOnPath_15 : decode cX5_isNewOnPath 15 = .ok (.ifCond .eq 12, 3) := by decide +kernel
theorem dX5_isNewOnPath_18 : decode cX5_isNewOnPath 18 = .ok (.iload_n 1, 1) := by decide +kernel
theorem dX5_isNewOnPath_19 : decode cX5_isNewOnPath 19 = .ok (.bipush 20, 2) := by decide +kernel
theorem dX5_isNewOnPath_21 : decode cX5_isNewOnPath 21 = .ok (.invokestatic 63, 3) := by decide +kernel
theorem dX5_isNewOnPath_24 : decode cX5_isNewOnPath 24 = .ok (.ifCond .ne 5, 3) := by decide +kernel
theorem dX5_isNewOnPath_27 : decode cX5_isNewOnPath 27 = .ok (.iconst 0, 1) := by decide +kernel
theorem dX5_isNewOnPath_28 : decode cX5_isNewOnPath 28 = .ok (.ireturn, 1) := by decide +kernel
theorem dX5_isNewOnPath_29 : decode cX5_isNewOnPath 29 = .ok (.aload_n 0, 1) := by decide +kernel
theorem dX5_isNewOnPath_30 : decode cX5_isNewOnPath 30 = .ok (.getfield 37, 3) := by decide +kernel
theorem dX5_isNewOnPath_33 : decode cX5_isNewOnPath 33 = .ok (.iload_n 1, 1) := by decide +kernel
theorem dX5_isNewOnPath_34 : decode cX5_isNewOnPath 34 = .ok (.iaload, 1) := by decide +kernel
theorem dX5_isNewOnPath_35 : decode cX5_isNewOnPath 35 = .ok (.istore_n 2, 1) := by decide +kernel
theorem dX5_isNewOnPath_36 : decode cX5_isNewOnPath 36 = .ok (.aload_n 0, 1) := by decide +kernel
theorem dX5_isNewOnPath_37 : decode cX5_isNewOnPath 37 = .ok (.getfield 37, 3) := by decide +kernel
theorem dX5_isNewOnPath_40 : decode cX5_isNewOnPath 40 = .ok (.iload_n 1, 1) := by decide +kernel
theorem dX5_isNewOnPath_41 : decode cX5_isNewOnPath 41 = .ok (.iload_n 2, 1) := by decide +kernel
theorem dX5_isNewOnPath_42 : decode cX5_isNewOnPath 42 = .ok (.iconst 1, 1) := by decide +kernel
theorem dX5_isNewOnPath_43 : decode cX5_isNewOnPath 43 = .ok (.aload_n 0, 1) := by decide +kernel
theorem dX5_isNewOnPath_44 : decode cX5_isNewOnPath 44 = .ok (.getfield 26, 3) := by decide +kernel
theorem dX5_isNewOnPath_47 : decode cX5_isNewOnPath 47 = .ok (.invokevirtual 203, 3) := by decide +kernel
theorem dX5_isNewOnPath_50 : decode cX5_isNewOnPath 50 = .ok (.ishl, 1) := by decide +kernel
theorem dX5_isNewOnPath_51 : decode cX5_isNewOnPath 51 = .ok (.ior, 1) := by decide +kernel
theorem dX5_isNewOnPath_52 : decode cX5_isNewOnPath 52 = .ok (.iastore, 1) := by decide +kernel
theorem dX5_isNewOnPath_53 : decode cX5_isNewOnPath 53 = .ok (.aload_n 0, 1) := by decide +kernel
theorem dX5_isNewOnPath_54 : decode cX5_isNewOnPath 54 = .ok (.getfield 37, 3) := by decide +kernel
theorem dX5_isNewOnPath_57 : decode cX5_isNewOnPath 57 = .ok (.iload_n 1, 1) := by decide +kernel
theorem dX5_isNewOnPath_58 : decode cX5_isNewOnPath 58 = .ok (.iaload, 1) := by decide +kernel
theorem dX5_isNewOnPath_59 : decode cX5_isNewOnPath 59 = .ok (.iload_n 2, 1) := by decide +kernel
theorem dX5_isNewOnPath_60 : decode cX5_isNewOnPath 60 = .ok (.if_icmp .eq 7, 3) := by decide +kernel
theorem dX5_isNewOnPath_63 : decode cX5_isNewOnPath 63 = .ok (.iconst 1, 1) := by decide +kernel
theorem dX5_isNewOnPath_64 : decode cX5_isNewOnPath 64 = .ok (.goto 4, 3) := by decide +kernel
theorem dX5_isNewOnPath_67 : decode cX5_isNewOnPath 67 = .ok (.iconst 0, 1) := by decide +kernel
theorem dX5_isNewOnPath_68 : decode cX5_isNewOnPath 68 = .ok (.ireturn, 1) := by decide +kernel
set_option maxRecDepth 20000 in
theorem ggX5_findTree_X3_size : GoodIn wsX5_findTree wsX3_size := goodIn_r _ [7, 8, 80, 81, 82, 83] (by decide +kernel) (by decide +kernel)
set_option maxRecDepth 20000 in
theorem gX5_findTree_X3_size : GoodIn wsX5_findTree (wsV RX5 152 RX3 yX3_size wsX3_size) := goodIn_app (goodIn_of _ (by decide +kernel)) ggX5_findTree_X3_size
set_option maxRecDepth 20000 in
theorem ggX5_findTree_X1_combinations : GoodIn wsX5_findTree wsX1_combinations := goodIn_r _ [13, 14, 15, 16, 12, 17, 18, 19, 20, 21, 22, 23, 24, 25, 26, 27, 28, 84, 85, 86, 87] (by decide +kernel) (by decide +kernel)
set_option maxRecDepth 20000 in
theorem gX5_findTree_X1_combinations : GoodIn wsX5_findTree (wsV RX5 206 RX1 yX1_combinations wsX1_combinations) := goodIn_app (goodIn_of _ (by decide +kernel)) ggX5_findTree_X1_combinations
set_option maxRecDepth 20000 in
theorem ggX5_findTree_X5_findLevel : GoodIn wsX5_findTree wsX5_findLevel := goodIn_r _ [33, 1, 34, 35, 36, 32, 37, 2, 38, 39, 40, 41, 42, 43, 44, 45, 46, 12, 47, 18, 19, 20, 21, 48, 49, 50, 51, 52, 53, 54, 55, 56, 57, 6, 58, 8, 59, 60, 61, 62, 63, 64, 65, 66, 67, 68, 69, 70, 71, 72, 73, 74, 75, 76, 77, 78, 79, 84, 85, 86, 87, 80, 81, 82, 83] (by decide +kernel) (by decide +kernel)
set_option maxRecDepth 20000 in
theorem gX5_findTree_X5_findLevel : GoodIn wsX5_findTree (wsV RX5 209 RX5 yX5_findLevel wsX5_findLevel) := goodIn_app (goodIn_of _ (by decide +kernel)) ggX5_findTree_X5_findLevel
theorem dX5_findTree_0 : decode cX5_findTree 0 = .ok (.iconst 0, 1) := by decide +kernel
theorem dX5_findTree_1 : decode cX5_findTree 1 = .ok (.istore_n 1, 1) := by decide +kernel
theorem dX5_findTree_2 : decode cX5_findTree 2 = .ok (.iconst 0, 1) := by decide +kernel
theorem dX5_findTree_3 : decode cX5_findTree 3 = .ok (.istore_n 2, 1) := by decide +kernel
theorem dX5_findTree_4 : decode cX5_findTree 4 = .ok (.iload_n 2, 1) := by decide +kernel
theorem dX5_findTree_5 : decode cX5_findTree 5 = .ok (.bipush 20, 2) := by decide +kernel
theorem dX5_findTree_7 : decode cX5_findTree 7 = .ok (.if_icmp .gt 58, 3) := by decide +kernel
theorem dX5_findTree_10 : decode cX5_findTree 10 = .ok (.aload_n 0, 1) := by decide +kernel
theorem dX5_findTree_11 : decode cX5_findTree 11 = .ok (.getfield 52, 3) := by decide +kernel
theorem dX5_findTree_14 : decode cX5_findTree 14 = .ok (.invokevirtual 152, 3) := by decide +kernel
theorem dX5_findTree_17 : decode cX5_findTree 17 = .ok (.istore_n 3, 1) := by decide +kernel
theorem dX5_findTree_18 : decode cX5_findTree 18 = .ok (.aload_n 0, 1) := by decide +kernel
theorem dX5_findTree_19 : decode cX5_findTree 19 = .ok (.getfield 33, 3) := by decide +kernel
theorem dX5_findTree_22 : decode cX5_findTree 22 = .ok (.iload_n 2, 1) := by decide +kernel
theorem dX5_findTree_23 : decode cX5_findTree 23 = .ok (.invokevirtual 206, 3) := by decide +kernel
theorem dX5_findTree_26 : decode cX5_findTree 26 = .ok (.sipush 4096, 3) := by decide +kernel
theorem dX5_findTree_29 : decode cX5_findTree 29 = .ok (.if_icmp .gt 13, 3) := by decide +kernel
theorem dX5_findTree_32 : decode cX5_findTree 32 = .ok (.aload_n 0, 1) := by decide +kernel
theorem dX5_findTree_33 : decode cX5_findTree 33 = .ok (.iload_n 2, 1) := by decide +kernel
theorem dX5_findTree_34 : decode cX5_findTree 34 = .ok (.iload_n 1, 1) := by decide +kernel
theorem dX5_findTree_35 : decode cX5_findTree 35 = .ok (.iload_n 3, 1) := by decide +kernel
theorem dX5_findTree_36 : decode cX5_findTree 36 = .ok (.invokevirtual 209, 3) := by decide +kernel
theorem dX5_findTree_39 : decode cX5_findTree 39 = .ok (.ifCond .ne 5, 3) := by decide +kernel
theorem dX5_findTree_42 : decode cX5_findTree 42 = .ok (.iconst 0, 1) := by decide +kernel
theorem dX5_findTree_43 : decode cX5_findTree 43 = .ok (.ireturn, 1) := by decide +kernel
theorem dX5_findTree_44 : decode cX5_findTree 44 = .ok (.aload_n 0, 1) := by decide +kernel
theorem dX5_findTree_45 : decode cX5_findTree 45 = .ok (.getfield 52, 3) := by decide +kernel
theorem dX5_findTree_48 : decode cX5_findTree 48 = .ok (.invokevirtual 152, 3) := by decide +kernel
theorem dX5_findTree_51 : decode cX5_findTree 51 = .ok (.iload_n 3, 1) := by decide +kernel
theorem dX5_findTree_52 : decode cX5_findTree 52 = .ok (.if_icmp .ne 5, 3) := by decide +kernel
theorem dX5_findTree_55 : decode cX5_findTree 55 = .ok (.iconst 1, 1) := by decide +kernel
theorem dX5_findTree_56 : decode cX5_findTree 56 = .ok (.ireturn, 1) := by decide +kernel
theorem dX5_findTree_57 : decode cX5_findTree 57 = .ok (.iload_n 3, 1) := by decide +kernel
theorem dX5_findTree_58 : decode cX5_findTree 58 = .ok (.istore_n 1, 1) := by decide +kernel
theorem dX5_findTree_59 : decode cX5_findTree 59 = .ok (.iinc 2 1, 3) := by decide +kernel
theorem dX5_findTree_62 : decode cX5_findTree 62 = .ok (.goto (-58), 3) := by decide +kernel
theorem dX5_findTree_65 : decode cX5_findTree 65 = .ok (.iconst 1, 1) := by decide +kernel
theorem dX5_findTree_66 : decode cX5_findTree 66 = .ok (.ireturn, 1) := by decide +kernel
set_option maxRecDepth 20000 in
theorem ggX5_findLevel_X5_findChildren : GoodIn wsX5_findLevel wsX5_findChildren := goodIn_r _ [6, 7, 1, 8, 9, 5, 10, 11, 12, 13, 14, 15, 16, 17, 18, 19, 20, 21, 22, 23, 24, 25, 26, 27, 28, 29, 30, 31, 32, 33, 34, 35, 36, 37, 38, 39, 40, 49, 50, 51, 52, 53, 54, 55, 56, 57, 58, 59, 60, 61, 62, 63, 64] (by decide +kernel) (by decide +kernel)
set_option maxRecDepth 20000 in
theorem gX5_findLevel_X5_findChildren : GoodIn wsX5_findLevel (wsV RX5 212 RX5 yX5_findChildren wsX5_findChildren) := goodIn_app (goodIn_of _ (by decide +kernel)) ggX5_findLevel_X5_findChildren
set_option maxRecDepth 20000 in
theorem ggX5_findLevel_X3_addressOf : GoodIn wsX5_findLevel wsX3_addressOf := goodIn_r _ [44, 36, 45, 46, 47, 33, 48, 35, 39, 5, 40, 61, 62, 63, 64] (by decide +kernel) (by decide +kernel)
set_option maxRecDepth 20000 in
theorem gX5_findLevel_X3_addressOf : GoodIn wsX5_findLevel (wsV RX5 154 RX3 yX3_addressOf wsX3_addressOf) := goodIn_app (goodIn_of _ (by decide +kernel)) ggX5_findLevel_X3_addressOf
set_option maxRecDepth 20000 in
theorem ggX5_findLevel_X5_wordOf : GoodIn wsX5_findLevel wsX5_wordOf := goodIn_r _ [10, 11, 12, 5, 13] (by decide +kernel) (by decide +kernel)
set_option maxRecDepth 20000 in
theorem gX5_findLevel_X5_wordOf : GoodIn wsX5_findLevel (va_wsS RX5 85 yX5_wordOf wsX5_wordOf) := goodIn_app (goodIn_of _ (by decide +kernel)) ggX5_findLevel_X5_wordOf
theorem dX5_findLevel_0 : decode cX5_findLevel 0 = .ok (.iload_n 1, 1) := by decide +kernel
theorem dX5_findLevel_1 : decode cX5_findLevel 1 = .ok (.ifCond .ne 12, 3) := by decide +kernel
theorem dX5_findLevel_4 : decode cX5_findLevel 4 = .ok (.aload_n 0, 1) := by decide +kernel
theorem dX5_findLevel_5 : decode cX5_findLevel 5 = .ok (.iconst 0, 1) := by decide +kernel
theorem dX5_findLevel_6 : decode cX5_findLevel 6 = .ok (.bipush (-7), 2) := by decide +kernel
theorem dX5_findLevel_8 : decode cX5_findLevel 8 = .ok (.iconst 0, 1) := by decide +kernel
theorem dX5_findLevel_9 : decode cX5_findLevel 9 = .ok (.invokevirtual 212, 3) := by decide +kernel
theorem dX5_findLevel_12 : decode cX5_findLevel 12 = .ok (.ireturn, 1) := by decide +kernel
theorem dX5_findLevel_13 : decode cX5_findLevel 13 = .ok (.iload_n 2, 1) := by decide +kernel
theorem dX5_findLevel_14 : decode cX5_findLevel 14 = .ok (.istore 4, 2) := by decide +kernel
theorem dX5_findLevel_16 : decode cX5_findLevel 16 = .ok (.iload 4, 2) := by decide +kernel
theorem dX5_findLevel_18 : decode cX5_findLevel 18 = .ok (.iload_n 3, 1) := by decide +kernel
theorem dX5_findLevel_19 : decode cX5_findLevel 19 = .ok (.if_icmp .ge 33, 3) := by decide +kernel
theorem dX5_findLevel_22 : decode cX5_findLevel 22 = .ok (.aload_n 0, 1) := by decide +kernel
theorem dX5_findLevel_23 : decode cX5_findLevel 23 = .ok (.iload_n 1, 1) := by decide +kernel
theorem dX5_findLevel_24 : decode cX5_findLevel 24 = .ok (.iload 4, 2) := by decide +kernel
theorem dX5_findLevel_26 : decode cX5_findLevel 26 = .ok (.aload_n 0, 1) := by decide +kernel
theorem dX5_findLevel_27 : decode cX5_findLevel 27 = .ok (.getfield 52, 3) := by decide +kernel
theorem dX5_findLevel_30 : decode cX5_findLevel 30 = .ok (.iload 4, 2) := by decide +kernel
theorem dX5_findLevel_32 : decode cX5_findLevel 32 = .ok (.invokevirtual 154, 3) := by decide +kernel
theorem dX5_findLevel_35 : decode cX5_findLevel 35 = .ok (.invokestatic 85, 3) := by decide +kernel
theorem dX5_findLevel_38 : decode cX5_findLevel 38 = .ok (.invokevirtual 212, 3) := by decide +kernel
theorem dX5_findLevel_41 : decode cX5_findLevel 41 = .ok (.ifCond .ne 5, 3) := by decide +kernel
theorem dX5_findLevel_44 : decode cX5_findLevel 44 = .ok (.iconst 0, 1) := by decide +kernel
theorem dX5_findLevel_45 : decode cX5_findLevel 45 = .ok (.ireturn, 1) := by decide +kernel
theorem dX5_findLevel_46 : decode cX5_findLevel 46 = .ok (.iinc 4 1, 3) := by decide +kernel
theorem dX5_findLevel_49 : decode cX5_findLevel 49 = .ok (.goto (-33), 3) := by decide +kernel
theorem dX5_findLevel_52 : decode cX5_findLevel 52 = .ok (.iconst 1, 1) := by decide +kernel
theorem dX5_findLevel_53 : decode cX5_findLevel 53 = .ok (.ireturn, 1) := by decide +kernel
set_option maxRecDepth 20000 in
theorem ggX5_findChildren_X5_wordOf : GoodIn wsX5_findChildren wsX5_wordOf := goodIn_r _ [6, 7, 8, 5, 9] (by decide +kernel) (by decide +kernel)
set_option maxRecDepth 20000 in
theorem gX5_findChildren_X5_wordOf : GoodIn wsX5_findChildren (va_wsS RX5 85 yX5_wordOf wsX5_wordOf) := goodIn_app (goodIn_of _ (by decide +kernel)) ggX5_findChildren_X5_wordOf
set_option maxRecDepth 20000 in
theorem ggX5_findChildren_X1_holdsPart : GoodIn wsX5_findChildren wsX1_holdsPart := goodIn_r _ [14, 15, 16, 17, 13, 18, 19, 5, 20, 45, 46, 47, 48] (by decide +kernel) (by decide +kernel)
set_option maxRecDepth 20000 in
theorem gX5_findChildren_X1_holdsPart : GoodIn wsX5_findChildren (wsV RX5 215 RX1 yX1_holdsPart wsX1_holdsPart) := goodIn_app (goodIn_of _ (by decide +kernel)) ggX5_findChildren_X1_holdsPart
set_option maxRecDepth 20000 in
theorem ggX5_findChildren_X1_holdsWord : GoodIn wsX5_findChildren wsX1_holdsWord := goodIn_r _ [24, 25, 11, 12, 13, 14, 15, 16, 17, 18, 19, 5, 20, 45, 46, 47, 48] (by decide +kernel) (by decide +kernel)
set_option maxRecDepth 20000 in
theorem gX5_findChildren_X1_holdsWord : GoodIn wsX5_findChildren (wsV RX5 136 RX1 yX1_holdsWord wsX1_holdsWord) := goodIn_app (goodIn_of _ (by decide +kernel)) ggX5_findChildren_X1_holdsWord
set_option maxRecDepth 20000 in
theorem ggX5_findChildren_X3_append : GoodIn wsX5_findChildren wsX3_append := goodIn_r _ [30, 31, 32, 33, 34, 35, 5, 36, 49, 50, 51, 52] (by decide +kernel) (by decide +kernel)
set_option maxRecDepth 20000 in
theorem gX5_findChildren_X3_append : GoodIn wsX5_findChildren (wsV RX5 218 RX3 yX3_append wsX3_append) := goodIn_app (goodIn_of _ (by decide +kernel)) ggX5_findChildren_X3_append
theorem dX5_findChildren_0 : decode cX5_findChildren 0 = .ok (.iconst 0, 1) := by decide +kernel
theorem dX5_findChildren_1 : decode cX5_findChildren 1 = .ok (.istore 4, 2) := by decide +kernel
theorem dX5_findChildren_3 : decode cX5_findChildren 3 = .ok (.iload 4, 2) := by decide +kernel
theorem dX5_findChildren_5 : decode cX5_findChildren 5 = .ok (.sipush 4096, 3) := by decide +kernel
theorem dX5_findChildren_8 : decode cX5_findChildren 8 = .ok (.if_icmp .ge 130, 3) := by decide +kernel
theorem dX5_findChildren_11 : decode cX5_findChildren 11 = .ok (.aload_n 0, 1) := by decide +kernel
theorem dX5_findChildren_12 : decode cX5_findChildren 12 = .ok (.getfield 33, 3) := by decide +kernel
theorem dX5_findChildren_15 : decode cX5_findChildren 15 = .ok (.iload_n 1, 1) := by decide +kernel
theorem dX5_findChildren_16 : decode cX5_findChildren 16 = .ok (.iconst 3, 1) := by decide +kernel
theorem dX5_findChildren_17 : decode cX5_findChildren 17 = .ok (.iload 4, 2) := by decide +kernel
theorem dX5_findChildren_19 : decode cX5_findChildren 19 = .ok (.invokestatic 85, 3) := by decide +kernel
theorem dX5_findChildren_22 : decode cX5_findChildren 22 = .ok (.iload_n 3, 1) := by decide +kernel
theorem dX5_findChildren_23 : decode cX5_findChildren 23 = .ok (.ixor, 1) := by decide +kernel
theorem dX5_findChildren_24 : decode cX5_findChildren 24 = .ok (.invokevirtual 215, 3) := by decide +kernel
theorem dX5_findChildren_27 : decode cX5_findChildren 27 = .ok (.ifCond .ne 6, 3) := by decide +kernel
theorem dX5_findChildren_30 : decode cX5_findChildren 30 = .ok (.goto 99, 3) := by decide +kernel
theorem dX5_findChildren_33 : decode cX5_findChildren 33 = .ok (.iload 4, 2) := by decide +kernel
theorem dX5_findChildren_35 : decode cX5_findChildren 35 = .ok (.istore 5, 2) := by decide +kernel
theorem dX5_findChildren_37 : decode cX5_findChildren 37 = .ok (.iload 5, 2) := by decide +kernel
theorem dX5_findChildren_39 : decode cX5_findChildren 39 = .ok (.iload 4, 2) := by decide +kernel
theorem dX5_findChildren_41 : decode cX5_findChildren 41 = .ok (.sipush 128, 3) := by decide +kernel
theorem dX5_findChildren_44 : decode cX5_findChildren 44 = .ok (.iadd, 1) := by decide +kernel
theorem dX5_findChildren_45 : decode cX5_findChildren 45 = .ok (.if_icmp .ge 84, 3) := by decide +kernel
theorem dX5_findChildren_48 : decode cX5_findChildren 48 = .ok (.aload_n 0, 1) := by decide +kernel
theorem dX5_findChildren_49 : decode cX5_findChildren 49 = .ok (.getfield 33, 3) := by decide +kernel
theorem dX5_findChildren_52 : decode cX5_findChildren 52 = .ok (.iload_n 1, 1) := by decide +kernel
theorem dX5_findChildren_53 : decode cX5_findChildren 53 = .ok (.iconst 2, 1) := by decide +kernel
theorem dX5_findChildren_54 : decode cX5_findChildren 54 = .ok (.iload 5, 2) := by decide +kernel
theorem dX5_findChildren_56 : decode cX5_findChildren 56 = .ok (.invokestatic 85, 3) := by decide +kernel
theorem dX5_findChildren_59 : decode cX5_findChildren 59 = .ok (.iload_n 3, 1) := by decide +kernel
theorem dX5_findChildren_60 : decode cX5_findChildren 60 = .ok (.ixor, 1) := by decide +kernel
theorem dX5_findChildren_61 : decode cX5_findChildren 61 = .ok (.invokevirtual 215, 3) := by decide +kernel
theorem dX5_findChildren_64 : decode cX5_findChildren 64 = .ok (.ifCond .ne 6, 3) := by decide +kernel
theorem dX5_findChildren_67 : decode cX5_findChildren 67 = .ok (.goto 56, 3) := by decide +kernel
theorem dX5_findChildren_70 : decode cX5_findChildren 70 = .ok (.iload 5, 2) := by decide +kernel
theorem dX5_findChildren_72 : decode cX5_findChildren 72 = .ok (.istore 6, 2) := by decide +kernel
theorem dX5_findChildren_74 : decode cX5_findChildren 74 = .ok (.iload 6, 2) := by decide +kernel
theorem dX5_findChildren_76 : decode cX5_findChildren 76 = .ok (.iload 5, 2) := by decide +kernel
theorem dX5_findChildren_78 : decode cX5_findChildren 78 = .ok (.iconst 4, 1) := by decide +kernel
theorem dX5_findChildren_79 : decode cX5_findChildren 79 = .ok (.iadd, 1) := by decide +kernel
theorem dX5_findChildren_80 : decode cX5_findChildren 80 = .ok (.if_icmp .ge 43, 3) := by decide +kernel
theorem dX5_findChildren_83 : decode cX5_findChildren 83 = .ok (.aload_n 0, 1) := by decide +kernel
theorem dX5_findChildren_84 : decode cX5_findChildren 84 = .ok (.getfield 33, 3) := by decide +kernel
theorem dX5_findChildren_87 : decode cX5_findChildren 87 = .ok (.iload_n 1, 1) := by decide +kernel
theorem dX5_findChildren_88 : decode cX5_findChildren 88 = .ok (.iload 6, 2) := by decide +kernel
theorem dX5_findChildren_90 : decode cX5_findChildren 90 = .ok (.invokestatic 85, 3) := by decide +kernel
theorem dX5_findChildren_93 : decode cX5_findChildren 93 = .ok (.iload_n 3, 1) := by decide +kernel
theorem dX5_findChildren_94 : decode cX5_findChildren 94 = .ok (.ixor, 1) := by decide +kernel
theorem dX5_findChildren_95 : decode cX5_findChildren 95 = .ok (.invokevirtual 136, 3) := by decide +kernel
theorem dX5_findChildren_98 : decode cX5_findChildren 98 = .ok (.ifCond .eq 19, 3) := by decide +kernel
theorem dX5_findChildren_101 : decode cX5_findChildren 101 = .ok (.aload_n 0, 1) := by decide +kernel
theorem dX5_findChildren_102 : decode cX5_findChildren 102 = .ok (.getfield 52, 3) := by decide +kernel
theorem dX5_findChildren_105 : decode cX5_findChildren 105 = .ok (.iload 6, 2) := by decide +kernel
theorem dX5_findChildren_107 : decode cX5_findChildren 107 = .ok (.iload_n 1, 1) := by decide +kernel
theorem dX5_findChildren_108 : decode cX5_findChildren 108 = .ok (.iload_n 2, 1) := by decide +kernel
theorem dX5_findChildren_109 : decode cX5_findChildren 109 = .ok (.invokevirtual 218, 3) := by decide +kernel
theorem dX5_findChildren_112 : decode cX5_findChildren 112 = .ok (.ifCond .ne 5, 3) := by decide +kernel
theorem dX5_findChildren_115 : decode cX5_findChildren 115 = .ok (.iconst 0, 1) := by decide +kernel
theorem dX5_findChildren_116 : decode cX5_findChildren 116 = .ok (.ireturn, 1) := by decide +kernel
theorem dX5_findChildren_117 : decode cX5_findChildren 117 = .ok (.iinc 6 1, 3) := by decide +kernel
theorem dX5_findChildren_120 : decode cX5_findChildren 120 = .ok (.goto (-46), 3) := by decide +kernel
theorem dX5_findChildren_123 : decode cX5_findChildren 123 = .ok (.iinc 5 4, 3) := by decide +kernel
theorem dX5_findChildren_126 : decode cX5_findChildren 126 = .ok (.goto (-89), 3) := by decide +kernel
theorem dX5_findChildren_129 : decode cX5_findChildren 129 = .ok (.iinc 4 128, 6) := by decide +kernel
theorem dX5_findChildren_135 : decode cX5_findChildren 135 = .ok (.goto (-132), 3) := by decide +kernel
theorem dX5_findChildren_138 : decode cX5_findChildren 138 = .ok (.iconst 1, 1) := by decide +kernel
theorem dX5_findChildren_139 : decode cX5_findChildren 139 = .ok (.ireturn, 1) := by decide +kernel
set_option maxRecDepth 20000 in
theorem ggX5_routerBehind_X3_addressOf : GoodIn wsX5_routerBehind wsX3_addressOf := goodIn_r _ [7, 8, 9, 10, 11, 6, 12, 13, 14, 15, 16, 52, 53, 54, 55] (by decide +kernel) (by decide +kernel)
set_option maxRecDepth 20000 in
theorem gX5_routerBehind_X3_addressOf : GoodIn wsX5_routerBehind (wsV RX5 154 RX3 yX3_addressOf wsX3_addressOf) := goodIn_app (goodIn_of _ (by decide +kernel)) ggX5_routerBehind_X3_addressOf
set_option maxRecDepth 20000 in
theorem ggX5_routerBehind_X2_find : GoodIn wsX5_routerBehind wsX2_find := goodIn_r _ [21, 22, 23, 56, 57, 58, 59] (by decide +kernel) (by decide +kernel)
set_option maxRecDepth 20000 in
theorem gX5_routerBehind_X2_find : GoodIn wsX5_routerBehind (wsV RX5 67 RX2 yX2_find wsX2_find) := goodIn_app (goodIn_of _ (by decide +kernel)) ggX5_routerBehind_X2_find
set_option maxRecDepth 20000 in
theorem ggX5_routerBehind_X2_has : GoodIn wsX5_routerBehind wsX2_has := goodIn_r _ [27, 22, 14, 15, 16, 56, 57, 58, 59] (by decide +kernel) (by decide +kernel)
set_option maxRecDepth 20000 in
theorem gX5_routerBehind_X2_has : GoodIn wsX5_routerBehind (wsV RX5 59 RX2 yX2_has wsX2_has) := goodIn_app (goodIn_of _ (by decide +kernel)) ggX5_routerBehind_X2_has
set_option maxRecDepth 20000 in
theorem ggX5_routerBehind_X3_has : GoodIn wsX5_routerBehind wsX3_has := goodIn_r _ [12, 13, 14, 15, 16, 52, 53, 54, 55] (by decide +kernel) (by decide +kernel)
set_option maxRecDepth 20000 in
theorem gX5_routerBehind_X3_has : GoodIn wsX5_routerBehind (wsV RX5 153 RX3 yX3_has wsX3_has) := goodIn_app (goodIn_of _ (by decide +kernel)) ggX5_routerBehind_X3_has
set_option maxRecDepth 20000 in
theorem ggX5_routerBehind_X2_addressOf : GoodIn wsX5_routerBehind wsX2_addressOf := goodIn_r _ [32, 23, 33, 25, 26, 20, 27, 22, 14, 15, 16, 56, 57, 58, 59] (by decide +kernel) (by decide +kernel)
set_option maxRecDepth 20000 in
theorem gX5_routerBehind_X2_addressOf : GoodIn wsX5_routerBehind (wsV RX5 220 RX2 yX2_addressOf wsX2_addressOf) := goodIn_app (goodIn_of _ (by decide +kernel)) ggX5_routerBehind_X2_addressOf
set_option maxRecDepth 20000 in
theorem ggX5_routerBehind_X2_parentOf : GoodIn wsX5_routerBehind wsX2_parentOf := goodIn_r _ [37, 38, 33, 25, 26, 20, 27, 22, 14, 15, 16, 56, 57, 58, 59] (by decide +kernel) (by decide +kernel)
set_option maxRecDepth 20000 in
theorem gX5_routerBehind_X2_parentOf : GoodIn wsX5_routerBehind (wsV RX5 139 RX2 yX2_parentOf wsX2_parentOf) := goodIn_app (goodIn_of _ (by decide +kernel)) ggX5_routerBehind_X2_parentOf
set_option maxRecDepth 20000 in
theorem ggX5_routerBehind_X3_parentOf : GoodIn wsX5_routerBehind wsX3_parentOf := goodIn_r _ [42, 43, 9, 10, 11, 6, 12, 13, 14, 15, 16, 52, 53, 54, 55] (by decide +kernel) (by decide +kernel)
set_option maxRecDepth 20000 in
theorem gX5_routerBehind_X3_parentOf : GoodIn wsX5_routerBehind (wsV RX5 160 RX3 yX3_parentOf wsX3_parentOf) := goodIn_app (goodIn_of _ (by decide +kernel)) ggX5_routerBehind_X3_parentOf
theorem dX5_routerBehind_0 : decode cX5_routerBehind 0 = .ok (.aload_n 0, 1) := by decide +kernel
theorem dX5_routerBehind_1 : decode cX5_routerBehind 1 = .ok (.getfield 10, 3) := by decide +kernel
theorem dX5_routerBehind_4 : decode cX5_routerBehind 4 = .ok (.aload_n 0, 1) := by decide +kernel
theorem dX5_routerBehind_5 : decode cX5_routerBehind 5 = .ok (.getfield 48, 3) := by decide +kernel
theorem dX5_routerBehind_8 : decode cX5_routerBehind 8 = .ok (.iload_n 1, 1) := by decide +kernel
theorem dX5_routerBehind_9 : decode cX5_routerBehind 9 = .ok (.invokevirtual 154, 3) := by decide +kernel
theorem dX5_routerBehind_12 : decode cX5_routerBehind 12 = .ok (.invokevirtual 67, 3) := by decide +kernel
theorem dX5_routerBehind_15 : decode cX5_routerBehind 15 = .ok (.istore_n 2, 1) := by decide +kernel
theorem dX5_routerBehind_16 : decode cX5_routerBehind 16 = .ok (.iload_n 2, 1) := by decide +kernel
theorem dX5_routerBehind_17 : decode cX5_routerBehind 17 = .ok (.istore_n 3, 1) := by decide +kernel
theorem dX5_routerBehind_18 : decode cX5_routerBehind 18 = .ok (.iload_n 1, 1) := by decide +kernel
theorem dX5_routerBehind_19 : decode cX5_routerBehind 19 = .ok (.istore 4, 2) := by decide +kernel
theorem dX5_routerBehind_21 : decode cX5_routerBehind 21 = .ok (.iconst 0, 1) := by decide +kernel
theorem dX5_routerBehind_22 : decode cX5_routerBehind 22 = .ok (.istore 5, 2) := by decide +kernel
theorem dX5_routerBehind_24 : decode cX5_routerBehind 24 = .ok (.iload 5, 2) := by decide +kernel
theorem dX5_routerBehind_26 : decode cX5_routerBehind 26 = .ok (.bipush 20, 2) := by decide +kernel
theorem dX5_routerBehind_28 : decode cX5_routerBehind 28 = .ok (.if_icmp .ge 75, 3) := by decide +kernel
theorem dX5_routerBehind_31 : decode cX5_routerBehind 31 = .ok (.aload_n 0, 1) := by decide +kernel
theorem dX5_routerBehind_32 : decode cX5_routerBehind 32 = .ok (.getfield 10, 3) := by decide +kernel
theorem dX5_routerBehind_35 : decode cX5_routerBehind 35 = .ok (.iload_n 3, 1) := by decide +kernel
theorem dX5_routerBehind_36 : decode cX5_routerBehind 36 = .ok (.invokevirtual 59, 3) := by decide +kernel
theorem dX5_routerBehind_39 : decode cX5_routerBehind 39 = .ok (.ifCond .eq 64, 3) := by decide +kernel
theorem dX5_routerBehind_42 : decode cX5_routerBehind 42 = .ok (.aload_n 0, 1) := by decide +kernel
theorem dX5_routerBehind_43 : decode cX5_routerBehind 43 = .ok (.getfield 48, 3) := by decide +kernel
theorem dX5_routerBehind_46 : decode cX5_routerBehind 46 = .ok (.iload 4, 2) := by decide +kernel
theorem dX5_routerBehind_48 : decode cX5_routerBehind 48 = .ok (.invokevirtual 153, 3) := by decide +kernel
theorem dX5_routerBehind_51 : decode cX5_routerBehind 51 = .ok (.ifCond .eq 52, 3) := by decide +kernel
theorem dX5_routerBehind_54 : decode cX5_routerBehind 54 = .ok (.aload_n 0, 1) := by decide +kernel
theorem dX5_routerBehind_55 : decode cX5_routerBehind 55 = .ok (.getfield 10, 3) := by decide +kernel
theorem dX5_routerBehind_58 : decode cX5_routerBehind 58 = .ok (.iload_n 3, 1) := by decide +kernel
theorem dX5_routerBehind_59 : decode cX5_routerBehind 59 = .ok (.invokevirtual 220, 3) := by decide +kernel
theorem dX5_routerBehind_62 : decode cX5_routerBehind 62 = .ok (.aload_n 0, 1) := by decide +kernel
theorem dX5_routerBehind_63 : decode cX5_routerBehind 63 = .ok (.getfield 48, 3) := by decide +kernel
theorem dX5_routerBehind_66 : decode cX5_routerBehind 66 = .ok (.iload 4, 2) := by decide +kernel
theorem dX5_routerBehind_68 : decode cX5_routerBehind 68 = .ok (.invokevirtual 154, 3) := by decide +kernel
theorem dX5_routerBehind_71 : decode cX5_routerBehind 71 = .ok (.if_icmp .eq 6, 3) := by decide +kernel
theorem dX5_routerBehind_74 : decode cX5_routerBehind 74 = .ok (.bipush (-7), 2) := by decide +kernel
theorem dX5_routerBehind_76 : decode cX5_routerBehind 76 = .ok (.ireturn, 1) := by decide +kernel
theorem dX5_routerBehind_77 : decode cX5_routerBehind 77 = .ok (.aload_n 0, 1) := by decide +kernel
theorem dX5_routerBehind_78 : decode cX5_routerBehind 78 = .ok (.getfield 10, 3) := by decide +kernel
theorem dX5_routerBehind_81 : decode cX5_routerBehind 81 = .ok (.iload_n 3, 1) := by decide +kernel
theorem dX5_routerBehind_82 : decode cX5_routerBehind 82 = .ok (.invokevirtual 139, 3) := by decide +kernel
theorem dX5_routerBehind_85 : decode cX5_routerBehind 85 = .ok (.istore_n 3, 1) := by decide +kernel
theorem dX5_routerBehind_86 : decode cX5_routerBehind 86 = .ok (.aload_n 0, 1) := by decide +kernel
theorem dX5_routerBehind_87 : decode cX5_routerBehind 87 = .ok (.getfield 48, 3) := by decide +kernel
theorem dX5_routerBehind_90 : decode cX5_routerBehind 90 = .ok (.iload 4, 2) := by decide +kernel
theorem dX5_routerBehind_92 : decode cX5_routerBehind 92 = .ok (.invokevirtual 160, 3) := by decide +kernel
theorem dX5_routerBehind_95 : decode cX5_routerBehind 95 = .ok (.istore 4, 2) := by decide +kernel
theorem dX5_routerBehind_97 : decode cX5_routerBehind 97 = .ok (.iinc 5 1, 3) := by decide +kernel
theorem dX5_routerBehind_100 : decode cX5_routerBehind 100 = .ok (.goto (-76), 3) := by decide +kernel
theorem dX5_routerBehind_103 : decode cX5_routerBehind 103 = .ok (.aload_n 0, 1) := by decide +kernel
theorem dX5_routerBehind_104 : decode cX5_routerBehind 104 = .ok (.getfield 10, 3) := by decide +kernel
theorem dX5_routerBehind_107 : decode cX5_routerBehind 107 = .ok (.iload_n 3, 1) := by decide +kernel
theorem dX5_routerBehind_108 : decode cX5_routerBehind 108 = .ok (.invokevirtual 59, 3) := by decide +kernel
theorem dX5_routerBehind_111 : decode cX5_routerBehind 111 = .ok (.ifCond .ne 15, 3) := by decide +kernel
theorem dX5_routerBehind_114 : decode cX5_routerBehind 114 = .ok (.aload_n 0, 1) := by decide +kernel
theorem dX5_routerBehind_115 : decode cX5_routerBehind 115 = .ok (.getfield 48, 3) := by decide +kernel
theorem dX5_routerBehind_118 : decode cX5_routerBehind 118 = .ok (.iload 4, 2) := by decide +kernel
theorem dX5_routerBehind_120 : decode cX5_routerBehind 120 = .ok (.invokevirtual 153, 3) := by decide +kernel
theorem dX5_routerBehind_123 : decode cX5_routerBehind 123 = .ok (.ifCond .eq 8, 3) := by decide +kernel
theorem dX5_routerBehind_126 : decode cX5_routerBehind 126 = .ok (.bipush (-7), 2) := by decide +kernel
theorem dX5_routerBehind_128 : decode cX5_routerBehind 128 = .ok (.goto 4, 3) := by decide +kernel
theorem dX5_routerBehind_131 : decode cX5_routerBehind 131 = .ok (.iload_n 2, 1) := by decide +kernel
theorem dX5_routerBehind_132 : decode cX5_routerBehind 132 = .ok (.ireturn, 1) := by decide +kernel
end
section
theorem dX6_init_0 : decode cX6_init 0 = .ok (.aload_n 0, 1) := by decide +kernel
theorem dX6_init_1 : decode cX6_init 1 = .ok (.invokespecial 1, 3) := by decide +kernel
theorem dX6_init_4 : decode cX6_init 4 = .ok (.aload_n 0, 1) := by decide +kernel
theorem dX6_init_5 : decode cX6_init 5 = .ok (.bipush 20, 2) := by decide +kernel
theorem dX6_init_7 : decode cX6_init 7 = .ok (.newarray .int, 2) := by decide +kernel
theorem dX6_init_9 : decode cX6_init 9 = .ok (.putfield 7, 3) := by decide +kernel
theorem dX6_init_12 : decode cX6_init 12 = .ok (.aload_n 0, 1) := by decide +kernel
theorem dX6_init_13 : decode cX6_init 13 = .ok (.bipush 20, 2) := by decide +kernel
theorem dX6_init_15 : decode cX6_init 15 = .ok (.newarray .int, 2) := by decide +kernel
theorem dX6_init_17 : decode cX6_init 17 = .ok (.putfield 13, 3) := by decide +kernel
theorem dX6_init_20 : decode cX6_init 20 = .ok (.aload_n 0, 1) := by decide +kernel
theorem dX6_init_21 : decode cX6_init 21 = .ok (.bipush 20, 2) := by decide +kernel
theorem dX6_init_23 : decode cX6_init 23 = .ok (.newarray .int, 2) := by decide +kernel
theorem dX6_init_25 : decode cX6_init 25 = .ok (.putfield 16, 3) := by decide +kernel
theorem dX6_init_28 : decode cX6_init 28 = .ok (.aload_n 0, 1) := by decide +kernel
theorem dX6_init_29 : decode cX6_init 29 = .ok (.sipush 4096, 3) := by decide +kernel
theorem dX6_init_32 : decode cX6_init 32 = .ok (.newarray .int, 2) := by decide +kernel
theorem dX6_init_34 : decode cX6_init 34 = .ok (.putfield 19, 3) := by decide +kernel
theorem dX6_init_37 : decode cX6_init 37 = .ok (.aload_n 0, 1) := by decide +kernel
theorem dX6_init_38 : decode cX6_init 38 = .ok (.bipush 20, 2) := by decide +kernel
theorem dX6_init_40 : decode cX6_init 40 = .ok (.newarray .int, 2) := by decide +kernel
theorem dX6_init_42 : decode cX6_init 42 = .ok (.putfield 22, 3) := by decide +kernel
theorem dX6_init_45 : decode cX6_init 45 = .ok (.aload_n 0, 1) := by decide +kernel
theorem dX6_init_46 : decode cX6_init 46 = .ok (.bipush 100, 2) := by decide +kernel
theorem dX6_init_48 : decode cX6_init 48 = .ok (.newarray .int, 2) := by decide +kernel
theorem dX6_init_50 : decode cX6_init 50 = .ok (.putfield 25, 3) := by decide +kernel
theorem dX6_init_53 : decode cX6_init 53 = .ok (.aload_n 0, 1) := by decide +kernel
theorem dX6_init_54 : decode cX6_init 54 = .ok (.bipush 100, 2) := by decide +kernel
theorem dX6_init_56 : decode cX6_init 56 = .ok (.newarray .int, 2) := by decide +kernel
theorem dX6_init_58 : decode cX6_init 58 = .ok (.putfield 28, 3) := by decide +kernel
theorem dX6_init_61 : decode cX6_init 61 = .ok (.aload_n 0, 1) := by decide +kernel
theorem dX6_init_62 : decode cX6_init 62 = .ok (.bipush 100, 2) := by decide +kernel
theorem dX6_init_64 : decode cX6_init 64 = .ok (.newarray .int, 2) := by decide +kernel
theorem dX6_init_66 : decode cX6_init 66 = .ok (.putfield 31, 3) := by decide +kernel
theorem dX6_init_69 : decode cX6_init 69 = .ok (.aload_n 0, 1) := by decide +kernel
theorem dX6_init_70 : decode cX6_init 70 = .ok (.bipush 101, 2) := by decide +kernel
theorem dX6_init_72 : decode cX6_init 72 = .ok (.newarray .int, 2) := by decide +kernel
theorem dX6_init_74 : decode cX6_init 74 = .ok (.putfield 34, 3) := by decide +kernel
theorem dX6_init_77 : decode cX6_init 77 = .ok (.aload_n 0, 1) := by decide +kernel
theorem dX6_init_78 : decode cX6_init 78 = .ok (.bipush 101, 2) := by decide +kernel
theorem dX6_init_80 : decode cX6_init 80 = .ok (.newarray .int, 2) := by decide +kernel
theorem dX6_init_82 : decode cX6_init 82 = .ok (.putfield 37, 3) := by decide +kernel
theorem dX6_init_85 : decode cX6_init 85 = .ok (.aload_n 0, 1) := by decide +kernel
theorem dX6_init_86 : decode cX6_init 86 = .ok (.bipush 101, 2) := by decide +kernel
theorem dX6_init_88 : decode cX6_init 88 = .ok (.newarray .int, 2) := by decide +kernel
theorem dX6_init_90 : decode cX6_init 90 = .ok (.putfield 40, 3) := by decide +kernel
theorem dX6_init_93 : decode cX6_init 93 = .ok (.aload_n 0, 1) := by decide +kernel
theorem dX6_init_94 : decode cX6_init 94 = .ok (.sipush 4096, 3) := by decide +kernel
theorem dX6_init_97 : decode cX6_init 97 = .ok (.newarray .int, 2) := by decide +kernel
theorem dX6_init_99 : decode cX6_init 99 = .ok (.putfield 43, 3) := by decide +kernel
theorem dX6_init_102 : decode cX6_init 102 = .ok (.aload_n 0, 1) := by decide +kernel
theorem dX6_init_103 : decode cX6_init 103 = .ok (.bipush 20, 2) := by decide +kernel
theorem dX6_init_105 : decode cX6_init 105 = .ok (.putfield 46, 3) := by decide +kernel
theorem dX6_init_108 : decode cX6_init 108 = .ok (.aload_n 0, 1) := by decide +kernel
theorem dX6_init_109 : decode cX6_init 109 = .ok (.iconst 1, 1) := by decide +kernel
theorem dX6_init_110 : decode cX6_init 110 = .ok (.putfield 50, 3) := by decide +kernel
theorem dX6_init_113 : decode cX6_init 113 = .ok (.return_, 1) := by decide +kernel
theorem dX6_within_0 : decode cX6_within 0 = .ok (.iload_n 0, 1) := by decide +kernel
theorem dX6_within_1 : decode cX6_within 1 = .ok (.iload_n 1, 1) := by decide +kernel
theorem dX6_within_2 : decode cX6_within 2 = .ok (.if_icmp .lt 12, 3) := by decide +kernel
theorem dX6_within_5 : decode cX6_within 5 = .ok (.iload_n 0, 1) := by decide +kernel
theorem dX6_within_6 : decode cX6_within 6 = .ok (.iload_n 2, 1) := by decide +kernel
theorem dX6_within_7 : decode cX6_within 7 = .ok (.if_icmp .gt 7, 3) := by decide +kernel
theorem dX6_within_10 : decode cX6_within 10 = .ok (.iconst 1, 1) := by decide +kernel
theorem dX6_within_11 : decode cX6_within 11 = .ok (.goto 4, 3) := by decide +kernel
theorem dX6_within_14 : decode cX6_within 14 = .ok (.iconst 0, 1) := by decide +kernel
theorem dX6_within_15 : decode cX6_within 15 = .ok (.ireturn, 1) := by decide +kernel
set_option maxRecDepth 20000 in
theorem ggX6_isRouter_X6_within : GoodIn wsX6_isRouter wsX6_within := goodIn_r _ [5] (by decide +kernel) (by decide +kernel)
set_option maxRecDepth 20000 in
theorem gX6_isRouter_X6_within : GoodIn wsX6_isRouter (va_wsS RX6 56 yX6_within wsX6_within) := goodIn_app (goodIn_of _ (by decide +kernel)) ggX6_isRouter_X6_within
theorem dX6_isRouter_0 : decode cX6_isRouter 0 = .ok (.iload_n 1, 1) := by decide +kernel
theorem dX6_isRouter_1 : decode cX6_isRouter 1 = .ok (.iconst 0, 1) := by decide +kernel
theorem dX6_isRouter_2 : decode cX6_isRouter 2 = .ok (.aload_n 0, 1) := by decide +kernel
theorem dX6_isRouter_3 : decode cX6_isRouter 3 = .ok (.getfield 53, 3) := by decide +kernel
theorem dX6_isRouter_6 : decode cX6_isRouter 6 = .ok (.iconst 1, 1) := by decide +kernel
theorem dX6_isRouter_7 : decode cX6_isRouter 7 = .ok (.isub, 1) := by decide +kernel
theorem dX6_isRouter_8 : decode cX6_isRouter 8 = .ok (.invokestatic 56, 3) := by decide +kernel
theorem dX6_isRouter_11 : decode cX6_isRouter 11 = .ok (.ireturn, 1) := by decide +kernel
set_option maxRecDepth 20000 in
theorem ggX6_isAddress_X6_within : GoodIn wsX6_isAddress wsX6_within := goodIn_r _ [4] (by decide +kernel) (by decide +kernel)
set_option maxRecDepth 20000 in
theorem gX6_isAddress_X6_within : GoodIn wsX6_isAddress (va_wsS RX6 56 yX6_within wsX6_within) := goodIn_app (goodIn_of _ (by decide +kernel)) ggX6_isAddress_X6_within
theorem dX6_isAddress_0 : decode cX6_isAddress 0 = .ok (.iload_n 0, 1) := by decide +kernel
theorem dX6_isAddress_1 : decode cX6_isAddress 1 = .ok (.iconst 0, 1) := by decide +kernel
theorem dX6_isAddress_2 : decode cX6_isAddress 2 = .ok (.sipush 4095, 3) := by decide +kernel
theorem dX6_isAddress_5 : decode cX6_isAddress 5 = .ok (.invokestatic 56, 3) := by decide +kernel
theorem dX6_isAddress_8 : decode cX6_isAddress 8 = .ok (.ireturn, 1) := by decide +kernel
theorem dX6_isUsed_0 : decode cX6_isUsed 0 = .ok (.iconst 0, 1) := by decide +kernel
theorem dX6_isUsed_1 : decode cX6_isUsed 1 = .ok (.istore_n 2, 1) := by decide +kernel
theorem dX6_isUsed_2 : decode cX6_isUsed 2 = .ok (.iload_n 2, 1) := by decide +kernel
theorem dX6_isUsed_3 : decode cX6_isUsed 3 = .ok (.aload_n 0, 1) := by decide +kernel
theorem dX6_isUsed_4 : decode cX6_isUsed 4 = .ok (.getfield 53, 3) := by decide +kernel
theorem dX6_isUsed_7 : decode cX6_isUsed 7 = .ok (.if_icmp .ge 21, 3) := by decide +kernel
theorem dX6_isUsed_10 : decode cX6_isUsed 10 = .ok (.aload_n 0, 1) := by decide +kernel
theorem dX6_isUsed_11 : decode cX6_isUsed 11 = .ok (.getfield 13, 3) := by decide +kernel
theorem dX6_isUsed_14 : decode cX6_isUsed 14 = .ok (.iload_n 2, 1) := by decide +kernel
theorem dX6_isUsed_15 : decode cX6_isUsed 15 = .ok (.iaload, 1) := by decide +kernel
theorem dX6_isUsed_16 : decode cX6_isUsed 16 = .ok (.iload_n 1, 1) := by decide +kernel
theorem dX6_isUsed_17 : decode cX6_isUsed 17 = .ok (.if_icmp .ne 5, 3) := by decide +kernel
theorem dX6_isUsed_20 : decode cX6_isUsed 20 = .ok (.iconst 1, 1) := by decide +kernel
theorem dX6_isUsed_21 : decode cX6_isUsed 21 = .ok (.ireturn, 1) := by decide +kernel
theorem dX6_isUsed_22 : decode cX6_isUsed 22 = .ok (.iinc 2 1, 3) := by decide +kernel
theorem dX6_isUsed_25 : decode cX6_isUsed 25 = .ok (.goto (-23), 3) := by decide +kernel
theorem dX6_isUsed_28 : decode cX6_isUsed 28 = .ok (.iconst 0, 1) := by decide +kernel
theorem dX6_isUsed_29 : decode cX6_isUsed 29 = .ok (.ireturn, 1) := by decide +kernel
set_option maxRecDepth 20000 in
theorem ggX6_addRouter_X6_isRouter : GoodIn wsX6_addRouter wsX6_isRouter := goodIn_r _ [9, 1, 10, 11, 8, 12, 20, 21, 22, 23, 24, 25, 26, 27, 28, 29, 30, 31, 32, 33, 34, 35, 36, 37, 38, 39, 40, 41, 42, 43] (by decide +kernel) (by decide +kernel)
set_option maxRecDepth 20000 in
theorem gX6_addRouter_X6_isRouter : GoodIn wsX6_addRouter (wsV RX6 60 RX6 yX6_isRouter wsX6_isRouter) := goodIn_app (goodIn_of _ (by decide +kernel)) ggX6_addRouter_X6_isRouter
set_option maxRecDepth 20000 in
theorem ggX6_addRouter_X6_isAddress : GoodIn wsX6_addRouter wsX6_isAddress := goodIn_r _ [15, 10, 11, 8, 12] (by decide +kernel) (by decide +kernel)
set_option maxRecDepth 20000 in
theorem gX6_addRouter_X6_isAddress : GoodIn wsX6_addRouter (va_wsS RX6 64 yX6_isAddress wsX6_isAddress) := goodIn_app (goodIn_of _ (by decide +kernel)) ggX6_addRouter_X6_isAddress
set_option maxRecDepth 20000 in
theorem ggX6_addRouter_X6_isUsed : GoodIn wsX6_addRouter wsX6_isUsed := goodIn_r _ [19, 1, 4, 20, 21, 22, 23, 24, 25, 26, 27, 28, 29, 30, 31, 32, 33, 34, 35, 36, 37, 38, 39, 40, 41, 42, 43] (by decide +kernel) (by decide +kernel)
set_option maxRecDepth 20000 in
theorem gX6_addRouter_X6_isUsed : GoodIn wsX6_addRouter (wsV RX6 67 RX6 yX6_isUsed wsX6_isUsed) := goodIn_app (goodIn_of _ (by decide +kernel)) ggX6_addRouter_X6_isUsed
theorem dX6_addRouter_0 : decode cX6_addRouter 0 = .ok (.aload_n 0, 1) := by decide +kernel
theorem dX6_addRouter_1 : decode cX6_addRouter 1 = .ok (.getfield 53, 3) := by decide +kernel
theorem dX6_addRouter_4 : decode cX6_addRouter 4 = .ok (.ifCond .le 13, 3) := by decide +kernel
theorem dX6_addRouter_7 : decode cX6_addRouter 7 = .ok (.aload_n 0, 1) := by decide +kernel
theorem dX6_addRouter_8 : decode cX6_addRouter 8 = .ok (.iload_n 1, 1) := by decide +kernel
theorem dX6_addRouter_9 : decode cX6_addRouter 9 = .ok (.invokevirtual 60, 3) := by decide +kernel
theorem dX6_addRouter_12 : decode cX6_addRouter 12 = .ok (.ifCond .ne 5, 3) := by decide +kernel
theorem dX6_addRouter_15 : decode cX6_addRouter 15 = .ok (.iconst (-1), 1) := by decide +kernel
theorem dX6_addRouter_16 : decode cX6_addRouter 16 = .ok (.ireturn, 1) := by decide +kernel
theorem dX6_addRouter_17 : decode cX6_addRouter 17 = .ok (.iload_n 2, 1) := by decide +kernel
theorem dX6_addRouter_18 : decode cX6_addRouter 18 = .ok (.invokestatic 64, 3) := by decide +kernel
theorem dX6_addRouter_21 : decode cX6_addRouter 21 = .ok (.ifCond .ne 6, 3) := by decide +kernel
theorem dX6_addRouter_24 : decode cX6_addRouter 24 = .ok (.bipush (-2), 2) := by decide +kernel
theorem dX6_addRouter_26 : decode cX6_addRouter 26 = .ok (.ireturn, 1) := by decide +kernel
theorem dX6_addRouter_27 : decode cX6_addRouter 27 = .ok (.aload_n 0, 1) := by decide +kernel
theorem dX6_addRouter_28 : decode cX6_addRouter 28 = .ok (.iload_n 2, 1) := by decide +kernel
theorem dX6_addRouter_29 : decode cX6_addRouter 29 = .ok (.invokevirtual 67, 3) := by decide +kernel
theorem dX6_addRouter_32 : decode cX6_addRouter 32 = .ok (.ifCond .eq 6, 3) := by decide +kernel
theorem dX6_addRouter_35 : decode cX6_addRouter 35 = .ok (.bipush (-3), 2) := by decide +kernel
theorem dX6_addRouter_37 : decode cX6_addRouter 37 = .ok (.ireturn, 1) := by decide +kernel
theorem dX6_addRouter_38 : decode cX6_addRouter 38 = .ok (.aload_n 0, 1) := by decide +kernel
theorem dX6_addRouter_39 : decode cX6_addRouter 39 = .ok (.getfield 53, 3) := by decide +kernel
theorem dX6_addRouter_42 : decode cX6_addRouter 42 = .ok (.bipush 20, 2) := by decide +kernel
theorem dX6_addRouter_44 : decode cX6_addRouter 44 = .ok (.if_icmp .ne 6, 3) := by decide +kernel
theorem dX6_addRouter_47 : decode cX6_addRouter 47 = .ok (.bipush (-4), 2) := by decide +kernel
theorem dX6_addRouter_49 : decode cX6_addRouter 49 = .ok (.ireturn, 1) := by decide +kernel
theorem dX6_addRouter_50 : decode cX6_addRouter 50 = .ok (.aload_n 0, 1) := by decide +kernel
theorem dX6_addRouter_51 : decode cX6_addRouter 51 = .ok (.getfield 7, 3) := by decide +kernel
theorem dX6_addRouter_54 : decode cX6_addRouter 54 = .ok (.aload_n 0, 1) := by decide +kernel
theorem dX6_addRouter_55 : decode cX6_addRouter 55 = .ok (.getfield 53, 3) := by decide +kernel
theorem dX6_addRouter_58 : decode cX6_addRouter 58 = .ok (.aload_n 0, 1) := by decide +kernel
theorem dX6_addRouter_59 : decode cX6_addRouter 59 = .ok (.getfield 53, 3) := by decide +kernel
theorem dX6_addRouter_62 : decode cX6_addRouter 62 = .ok (.ifCond .ne 8, 3) := by decide +kernel
theorem dX6_addRouter_65 : decode cX6_addRouter 65 = .ok (.bipush (-7), 2) := by decide +kernel
theorem dX6_addRouter_67 : decode cX6_addRouter 67 = .ok (.goto 4, 3) := by decide +kernel
theorem dX6_addRouter_70 : decode cX6_addRouter 70 = .ok (.iload_n 1, 1) := by decide +kernel
theorem dX6_addRouter_71 : decode cX6_addRouter 71 = .ok (.iastore, 1) := by decide +kernel
theorem dX6_addRouter_72 : decode cX6_addRouter 72 = .ok (.aload_n 0, 1) := by decide +kernel
theorem dX6_addRouter_73 : decode cX6_addRouter 73 = .ok (.getfield 16, 3) := by decide +kernel
theorem dX6_addRouter_76 : decode cX6_addRouter 76 = .ok (.aload_n 0, 1) := by decide +kernel
theorem dX6_addRouter_77 : decode cX6_addRouter 77 = .ok (.getfield 53, 3) := by decide +kernel
theorem dX6_addRouter_80 : decode cX6_addRouter 80 = .ok (.aload_n 0, 1) := by decide +kernel
theorem dX6_addRouter_81 : decode cX6_addRouter 81 = .ok (.getfield 53, 3) := by decide +kernel
theorem dX6_addRouter_84 : decode cX6_addRouter 84 = .ok (.ifCond .ne 7, 3) := by decide +kernel
theorem dX6_addRouter_87 : decode cX6_addRouter 87 = .ok (.iconst 0, 1) := by decide +kernel
theorem dX6_addRouter_88 : decode cX6_addRouter 88 = .ok (.goto 11, 3) := by decide +kernel
theorem dX6_addRouter_91 : decode cX6_addRouter 91 = .ok (.aload_n 0, 1) := by decide +kernel
theorem dX6_addRouter_92 : decode cX6_addRouter 92 = .ok (.getfield 16, 3) := by decide +kernel
theorem dX6_addRouter_95 : decode cX6_addRouter 95 = .ok (.iload_n 1, 1) := by decide +kernel
theorem dX6_addRouter_96 : decode cX6_addRouter 96 = .ok (.iaload, 1) := by decide +kernel
theorem dX6_addRouter_97 : decode cX6_addRouter 97 = .ok (.iconst 1, 1) := by decide +kernel
theorem dX6_addRouter_98 : decode cX6_addRouter 98 = .ok (.iadd, 1) := by decide +kernel
theorem dX6_addRouter_99 : decode cX6_addRouter 99 = .ok (.iastore, 1) := by decide +kernel
theorem dX6_addRouter_100 : decode cX6_addRouter 100 = .ok (.aload_n 0, 1) := by decide +kernel
theorem dX6_addRouter_101 : decode cX6_addRouter 101 = .ok (.getfield 13, 3) := by decide +kernel
theorem dX6_addRouter_104 : decode cX6_addRouter 104 = .ok (.aload_n 0, 1) := by decide +kernel
theorem dX6_addRouter_105 : decode cX6_addRouter 105 = .ok (.getfield 53, 3) := by decide +kernel
theorem dX6_addRouter_108 : decode cX6_addRouter 108 = .ok (.iload_n 2, 1) := by decide +kernel
theorem dX6_addRouter_109 : decode cX6_addRouter 109 = .ok (.iastore, 1) := by decide +kernel
theorem dX6_addRouter_110 : decode cX6_addRouter 110 = .ok (.aload_n 0, 1) := by decide +kernel
theorem dX6_addRouter_111 : decode cX6_addRouter 111 = .ok (.dup, 1) := by decide +kernel
theorem dX6_addRouter_112 : decode cX6_addRouter 112 = .ok (.getfield 53, 3) := by decide +kernel
theorem dX6_addRouter_115 : decode cX6_addRouter 115 = .ok (.iconst 1, 1) := by decide +kernel
theorem dX6_addRouter_116 : decode cX6_addRouter 116 = .ok (.iadd, 1) := by decide +kernel
theorem dX6_addRouter_117 : decode cX6_addRouter 117 = .ok (.putfield 53, 3) := by decide +kernel
theorem dX6_addRouter_120 : decode cX6_addRouter 120 = .ok (.aload_n 0, 1) := by decide +kernel
theorem dX6_addRouter_121 : decode cX6_addRouter 121 = .ok (.getfield 53, 3) := by decide +kernel
theorem dX6_addRouter_124 : decode cX6_addRouter 124 = .ok (.iconst 1, 1) := by decide +kernel
theorem dX6_addRouter_125 : decode cX6_addRouter 125 = .ok (.isub, 1) := by decide +kernel
theorem dX6_addRouter_126 : decode cX6_addRouter 126 = .ok (.ireturn, 1) := by decide +kernel
theorem dX6_routerCount_0 : decode cX6_routerCount 0 = .ok (.aload_n 0, 1) := by decide +kernel
theorem dX6_routerCount_1 : decode cX6_routerCount 1 = .ok (.getfield 53, 3) := by decide +kernel
theorem dX6_routerCount_4 : decode cX6_routerCount 4 = .ok (.ireturn, 1) := by decide +kernel
set_option maxRecDepth 20000 in
theorem ggX6_depth_X6_isRouter : GoodIn wsX6_depth wsX6_isRouter := goodIn_r _ [6, 7, 8, 9, 5, 10, 11, 12, 13, 14, 15, 16, 17, 18, 19, 20, 21, 22, 23, 24, 25, 26, 27, 28, 29, 30, 31, 32, 33, 34] (by decide +kernel) (by decide +kernel)
set_option maxRecDepth 20000 in
theorem gX6_depth_X6_isRouter : GoodIn wsX6_depth (wsV RX6 60 RX6 yX6_isRouter wsX6_isRouter) := goodIn_app (goodIn_of _ (by decide +kernel)) ggX6_depth_X6_isRouter
theorem dX6_depth_0 : decode cX6_depth 0 = .ok (.aload_n 0, 1) := by decide +kernel
theorem dX6_depth_1 : decode cX6_depth 1 = .ok (.iload_n 1, 1) := by decide +kernel
theorem dX6_depth_2 : decode cX6_depth 2 = .ok (.invokevirtual 60, 3) := by decide +kernel
theorem dX6_depth_5 : decode cX6_depth 5 = .ok (.ifCond .eq 12, 3) := by decide +kernel
theorem dX6_depth_8 : decode cX6_depth 8 = .ok (.aload_n 0, 1) := by decide +kernel
theorem dX6_depth_9 : decode cX6_depth 9 = .ok (.getfield 16, 3) := by decide +kernel
theorem dX6_depth_12 : decode cX6_depth 12 = .ok (.iload_n 1, 1) := by decide +kernel
theorem dX6_depth_13 : decode cX6_depth 13 = .ok (.iaload, 1) := by decide +kernel
theorem dX6_depth_14 : decode cX6_depth 14 = .ok (.goto 4, 3) := by decide +kernel
theorem dX6_depth_17 : decode cX6_depth 17 = .ok (.iconst (-1), 1) := by decide +kernel
theorem dX6_depth_18 : decode cX6_depth 18 = .ok (.ireturn, 1) := by decide +kernel
theorem dX6_digestOf_0 : decode cX6_digestOf 0 = .ok (.iload_n 0, 1) := by decide +kernel
theorem dX6_digestOf_1 : decode cX6_digestOf 1 = .ok (.sipush 167, 3) := by decide +kernel
theorem dX6_digestOf_4 : decode cX6_digestOf 4 = .ok (.imul, 1) := by decide +kernel
theorem dX6_digestOf_5 : decode cX6_digestOf 5 = .ok (.bipush 29, 2) := by decide +kernel
theorem dX6_digestOf_7 : decode cX6_digestOf 7 = .ok (.iadd, 1) := by decide +kernel
theorem dX6_digestOf_8 : decode cX6_digestOf 8 = .ok (.iconst 3, 1) := by decide +kernel
theorem dX6_digestOf_9 : decode cX6_digestOf 9 = .ok (.ishr, 1) := by decide +kernel
theorem dX6_digestOf_10 : decode cX6_digestOf 10 = .ok (.iload_n 0, 1) := by decide +kernel
theorem dX6_digestOf_11 : decode cX6_digestOf 11 = .ok (.ixor, 1) := by decide +kernel
theorem dX6_digestOf_12 : decode cX6_digestOf 12 = .ok (.sipush 255, 3) := by decide +kernel
theorem dX6_digestOf_15 : decode cX6_digestOf 15 = .ok (.iand, 1) := by decide +kernel
theorem dX6_digestOf_16 : decode cX6_digestOf 16 = .ok (.ireturn, 1) := by decide +kernel
set_option maxRecDepth 20000 in
theorem ggX6_wordOf_X6_digestOf : GoodIn wsX6_wordOf wsX6_digestOf := goodIn_r _ [4] (by decide +kernel) (by decide +kernel)
set_option maxRecDepth 20000 in
theorem gX6_wordOf_X6_digestOf : GoodIn wsX6_wordOf (va_wsS RX6 70 yX6_digestOf wsX6_digestOf) := goodIn_app (goodIn_of _ (by decide +kernel)) ggX6_wordOf_X6_digestOf
theorem dX6_wordOf_0 : decode cX6_wordOf 0 = .ok (.sipush 256, 3) := by decide +kernel
theorem dX6_wordOf_3 : decode cX6_wordOf 3 = .ok (.iload_n 0, 1) := by decide +kernel
theorem dX6_wordOf_4 : decode cX6_wordOf 4 = .ok (.imul, 1) := by decide +kernel
theorem dX6_wordOf_5 : decode cX6_wordOf 5 = .ok (.iload_n 0, 1) := by decide +kernel
theorem dX6_wordOf_6 : decode cX6_wordOf 6 = .ok (.invokestatic 70, 3) := by decide +kernel
theorem dX6_wordOf_9 : decode cX6_wordOf 9 = .ok (.iadd, 1) := by decide +kernel
theorem dX6_wordOf_10 : decode cX6_wordOf 10 = .ok (.ireturn, 1) := by decide +kernel
theorem dX6_fragmentOf_0 : decode cX6_fragmentOf 0 = .ok (.iload_n 0, 1) := by decide +kernel
theorem dX6_fragmentOf_1 : decode cX6_fragmentOf 1 = .ok (.iconst 5, 1) := by decide +kernel
theorem dX6_fragmentOf_2 : decode cX6_fragmentOf 2 = .ok (.iload_n 1, 1) := by decide +kernel
theorem dX6_fragmentOf_3 : decode cX6_fragmentOf 3 = .ok (.imul, 1) := by decide +kernel
theorem dX6_fragmentOf_4 : decode cX6_fragmentOf 4 = .ok (.ishr, 1) := by decide +kernel
theorem dX6_fragmentOf_5 : decode cX6_fragmentOf 5 = .ok (.bipush 31, 2) := by decide +kernel
theorem dX6_fragmentOf_7 : decode cX6_fragmentOf 7 = .ok (.iand, 1) := by decide +kernel
theorem dX6_fragmentOf_8 : decode cX6_fragmentOf 8 = .ok (.ireturn, 1) := by decide +kernel
set_option maxRecDepth 20000 in
theorem ggX6_digest_X6_isAddress : GoodIn wsX6_digest wsX6_isAddress := goodIn_r _ [4, 5, 6, 3, 7] (by decide +kernel) (by decide +kernel)
set_option maxRecDepth 20000 in
theorem gX6_digest_X6_isAddress : GoodIn wsX6_digest (va_wsS RX6 64 yX6_isAddress wsX6_isAddress) := goodIn_app (goodIn_of _ (by decide +kernel)) ggX6_digest_X6_isAddress
set_option maxRecDepth 20000 in
theorem ggX6_digest_X6_digestOf : GoodIn wsX6_digest wsX6_digestOf := goodIn_r _ [10] (by decide +kernel) (by decide +kernel)
set_option maxRecDepth 20000 in
theorem gX6_digest_X6_digestOf : GoodIn wsX6_digest (va_wsS RX6 70 yX6_digestOf wsX6_digestOf) := goodIn_app (goodIn_of _ (by decide +kernel)) ggX6_digest_X6_digestOf
theorem dX6_digest_0 : decode cX6_digest 0 = .ok (.iload_n 1, 1) := by decide +kernel
theorem dX6_digest_1 : decode cX6_digest 1 = .ok (.invokestatic 64, 3) := by decide +kernel
theorem dX6_digest_4 : decode cX6_digest 4 = .ok (.ifCond .eq 10, 3) := by decide +kernel
theorem dX6_digest_7 : decode cX6_digest 7 = .ok (.iload_n 1, 1) := by decide +kernel
theorem dX6_digest_8 : decode cX6_digest 8 = .ok (.invokestatic 70, 3) := by decide +kernel
theorem dX6_digest_11 : decode cX6_digest 11 = .ok (.goto 5, 3) := by decide +kernel
theorem dX6_digest_14 : decode cX6_digest 14 = .ok (.bipush (-2), 2) := by decide +kernel
theorem dX6_digest_16 : decode cX6_digest 16 = .ok (.ireturn, 1) := by decide +kernel
set_option maxRecDepth 20000 in
theorem ggX6_fragment_X6_isAddress : GoodIn wsX6_fragment wsX6_isAddress := goodIn_r _ [4, 5, 6, 3, 7] (by decide +kernel) (by decide +kernel)
set_option maxRecDepth 20000 in
theorem gX6_fragment_X6_isAddress : GoodIn wsX6_fragment (va_wsS RX6 64 yX6_isAddress wsX6_isAddress) := goodIn_app (goodIn_of _ (by decide +kernel)) ggX6_fragment_X6_isAddress
set_option maxRecDepth 20000 in
theorem ggX6_fragment_X6_within : GoodIn wsX6_fragment wsX6_within := goodIn_r _ [7] (by decide +kernel) (by decide +kernel)
set_option maxRecDepth 20000 in
theorem gX6_fragment_X6_within : GoodIn wsX6_fragment (va_wsS RX6 56 yX6_within wsX6_within) := goodIn_app (goodIn_of _ (by decide +kernel)) ggX6_fragment_X6_within
set_option maxRecDepth 20000 in
theorem ggX6_fragment_X6_wordOf : GoodIn wsX6_fragment wsX6_wordOf := goodIn_r _ [10, 11, 12, 3, 13] (by decide +kernel) (by decide +kernel)
set_option maxRecDepth 20000 in
theorem gX6_fragment_X6_wordOf : GoodIn wsX6_fragment (va_wsS RX6 74 yX6_wordOf wsX6_wordOf) := goodIn_app (goodIn_of _ (by decide +kernel)) ggX6_fragment_X6_wordOf
set_option maxRecDepth 20000 in
theorem ggX6_fragment_X6_fragmentOf : GoodIn wsX6_fragment wsX6_fragmentOf := goodIn_r _ [16] (by decide +kernel) (by decide +kernel)
set_option maxRecDepth 20000 in
theorem gX6_fragment_X6_fragmentOf : GoodIn wsX6_fragment (va_wsS RX6 77 yX6_fragmentOf wsX6_fragmentOf) := goodIn_app (goodIn_of _ (by decide +kernel)) ggX6_fragment_X6_fragmentOf
theorem dX6_fragment_0 : decode cX6_fragment 0 = .ok (.iload_n 1, 1) := by decide +kernel
theorem dX6_fragment_1 : decode cX6_fragment 1 = .ok (.invokestatic 64, 3) := by decide +kernel
theorem dX6_fragment_4 : decode cX6_fragment 4 = .ok (.ifCond .eq 23, 3) := by decide +kernel
theorem dX6_fragment_7 : decode cX6_fragment 7 = .ok (.iload_n 2, 1) := by decide +kernel
theorem dX6_fragment_8 : decode cX6_fragment 8 = .ok (.iconst 0, 1) := by decide +kernel
theorem dX6_fragment_9 : decode cX6_fragment 9 = .ok (.iconst 3, 1) := by decide +kernel
theorem dX6_fragment_10 : decode cX6_fragment 10 = .ok (.invokestatic 56, 3) := by decide +kernel
theorem dX6_fragment_13 : decode cX6_fragment 13 = .ok (.ifCond .eq 14, 3) := by decide +kernel
theorem dX6_fragment_16 : decode cX6_fragment 16 = .ok (.iload_n 1, 1) := by decide +kernel
theorem dX6_fragment_17 : decode cX6_fragment 17 = .ok (.invokestatic 74, 3) := by decide +kernel
theorem dX6_fragment_20 : decode cX6_fragment 20 = .ok (.iload_n 2, 1) := by decide +kernel
theorem dX6_fragment_21 : decode cX6_fragment 21 = .ok (.invokestatic 77, 3) := by decide +kernel
theorem dX6_fragment_24 : decode cX6_fragment 24 = .ok (.goto 5, 3) := by decide +kernel
theorem dX6_fragment_27 : decode cX6_fragment 27 = .ok (.bipush (-2), 2) := by decide +kernel
theorem dX6_fragment_29 : decode cX6_fragment 29 = .ok (.ireturn, 1) := by decide +kernel
set_option maxRecDepth 20000 in
theorem ggX6_setMarkingPercent_X6_within : GoodIn wsX6_setMarkingPercent wsX6_within := goodIn_r _ [5] (by decide +kernel) (by decide +kernel)
set_option maxRecDepth 20000 in
theorem gX6_setMarkingPercent_X6_within : GoodIn wsX6_setMarkingPercent (va_wsS RX6 56 yX6_within wsX6_within) := goodIn_app (goodIn_of _ (by decide +kernel)) ggX6_setMarkingPercent_X6_within
theorem dX6_setMarkingPercent_0 : decode cX6_setMarkingPercent 0 = .ok (.iload_n 1, 1) := by decide +kernel
theorem dX6_setMarkingPercent_1 : decode cX6_setMarkingPercent 1 = .ok (.iconst 1, 1) := by decide +kernel
theorem dX6_setMarkingPercent_2 : decode cX6_setMarkingPercent 2 = .ok (.bipush 100, 2) := by decide +kernel
theorem dX6_setMarkingPercent_4 : decode cX6_setMarkingPercent 4 = .ok (.invokestatic 56, 3) := by decide +kernel
theorem dX6_setMarkingPercent_7 : decode cX6_setMarkingPercent 7 = .ok (.ifCond .ne 6, 3) := by decide +kernel
theorem dX6_setMarkingPercent_10 : decode cX6_setMarkingPercent 10 = .ok (.bipush (-2), 2) := by decide +kernel
theorem dX6_setMarkingPercent_12 : decode cX6_setMarkingPercent 12 = .ok (.ireturn, 1) := by decide +kernel
theorem dX6_setMarkingPercent_13 : decode cX6_setMarkingPercent 13 = .ok (.aload_n 0, 1) := by decide +kernel
theorem dX6_setMarkingPercent_14 : decode cX6_setMarkingPercent 14 = .ok (.getfield 46, 3) := by decide +kernel
theorem dX6_setMarkingPercent_17 : decode cX6_setMarkingPercent 17 = .ok (.istore_n 2, 1) := by decide +kernel
theorem dX6_setMarkingPercent_18 : decode cX6_setMarkingPercent 18 = .ok (.aload_n 0, 1) := by decide +kernel
theorem dX6_setMarkingPercent_19 : decode cX6_setMarkingPercent 19 = .ok (.iload_n 1, 1) := by decide +kernel
theorem dX6_setMarkingPercent_20 : decode cX6_setMarkingPercent 20 = .ok (.putfield 46, 3) := by decide +kernel
theorem dX6_setMarkingPercent_23 : decode cX6_setMarkingPercent 23 = .ok (.iload_n 2, 1) := by decide +kernel
theorem dX6_setMarkingPercent_24 : decode cX6_setMarkingPercent 24 = .ok (.ireturn, 1) := by decide +kernel
theorem dX6_setSeed_0 : decode cX6_setSeed 0 = .ok (.aload_n 0, 1) := by decide +kernel
theorem dX6_setSeed_1 : decode cX6_setSeed 1 = .ok (.getfield 50, 3) := by decide +kernel
theorem dX6_setSeed_4 : decode cX6_setSeed 4 = .ok (.istore_n 2, 1) := by decide +kernel
theorem dX6_setSeed_5 : decode cX6_setSeed 5 = .ok (.aload_n 0, 1) := by decide +kernel
theorem dX6_setSeed_6 : decode cX6_setSeed 6 = .ok (.iload_n 1, 1) := by decide +kernel
theorem dX6_setSeed_7 : decode cX6_setSeed 7 = .ok (.putfield 50, 3) := by decide +kernel
theorem dX6_setSeed_10 : decode cX6_setSeed 10 = .ok (.iload_n 2, 1) := by decide +kernel
theorem dX6_setSeed_11 : decode cX6_setSeed 11 = .ok (.ireturn, 1) := by decide +kernel
theorem dX6_draws_0 : decode cX6_draws 0 = .ok (.aload_n 0, 1) := by decide +kernel
theorem dX6_draws_1 : decode cX6_draws 1 = .ok (.aload_n 0, 1) := by decide +kernel
theorem dX6_draws_2 : decode cX6_draws 2 = .ok (.getfield 50, 3) := by decide +kernel
theorem dX6_draws_5 : decode cX6_draws 5 = .ok (.ldc 81, 2) := by decide +kernel
theorem dX6_draws_7 : decode cX6_draws 7 = .ok (.imul, 1) := by decide +kernel
theorem dX6_draws_8 : decode cX6_draws 8 = .ok (.sipush 12345, 3) := by decide +kernel
theorem dX6_draws_11 : decode cX6_draws 11 = .ok (.iadd, 1) := by decide +kernel
theorem dX6_draws_12 : decode cX6_draws 12 = .ok (.putfield 50, 3) := by decide +kernel
theorem dX6_draws_15 : decode cX6_draws 15 = .ok (.aload_n 0, 1) := by decide +kernel
theorem dX6_draws_16 : decode cX6_draws 16 = .ok (.getfield 50, 3) := by decide +kernel
theorem dX6_draws_19 : decode cX6_draws 19 = .ok (.bipush 16, 2) := by decide +kernel
theorem dX6_draws_21 : decode cX6_draws 21 = .ok (.iushr, 1) := by decide +kernel
theorem dX6_draws_22 : decode cX6_draws 22 = .ok (.sipush 32767, 3) := by decide +kernel
theorem dX6_draws_25 : decode cX6_draws 25 = .ok (.iand, 1) := by decide +kernel
theorem dX6_draws_26 : decode cX6_draws 26 = .ok (.ireturn, 1) := by decide +kernel
set_option maxRecDepth 20000 in
theorem ggX6_process_X6_wordOf : GoodIn wsX6_process wsX6_wordOf := goodIn_r _ [10, 11, 12, 9, 13] (by decide +kernel) (by decide +kernel)
set_option maxRecDepth 20000 in
theorem gX6_process_X6_wordOf : GoodIn wsX6_process (va_wsS RX6 74 yX6_wordOf wsX6_wordOf) := goodIn_app (goodIn_of _ (by decide +kernel)) ggX6_process_X6_wordOf
set_option maxRecDepth 20000 in
theorem ggX6_process_X6_draws : GoodIn wsX6_process wsX6_draws := goodIn_r _ [17, 18, 19, 23, 24, 25, 26, 27, 28, 29, 30, 31, 32, 33, 34, 35, 36, 37, 38, 39, 40, 41, 42, 43, 44, 45, 46] (by decide +kernel) (by decide +kernel)
set_option maxRecDepth 20000 in
theorem gX6_process_X6_draws : GoodIn wsX6_process (wsV RX6 82 RX6 yX6_draws wsX6_draws) := goodIn_app (goodIn_of _ (by decide +kernel)) ggX6_process_X6_draws
set_option maxRecDepth 20000 in
theorem ggX6_process_X6_fragmentOf : GoodIn wsX6_process wsX6_fragmentOf := goodIn_r _ [22] (by decide +kernel) (by decide +kernel)
set_option maxRecDepth 20000 in
theorem gX6_process_X6_fragmentOf : GoodIn wsX6_process (va_wsS RX6 77 yX6_fragmentOf wsX6_fragmentOf) := goodIn_app (goodIn_of _ (by decide +kernel)) ggX6_process_X6_fragmentOf
theorem dX6_process_0 : decode cX6_process 0 = .ok (.aload_n 0, 1) := by decide +kernel
theorem dX6_process_1 : decode cX6_process 1 = .ok (.getfield 13, 3) := by decide +kernel
theorem dX6_process_4 : decode cX6_process 4 = .ok (.iload_n 1, 1) := by decide +kernel
theorem dX6_process_5 : decode cX6_process 5 = .ok (.iaload, 1) := by decide +kernel
theorem dX6_process_6 : decode cX6_process 6 = .ok (.invokestatic 74, 3) := by decide +kernel
theorem dX6_process_9 : decode cX6_process 9 = .ok (.istore_n 2, 1) := by decide +kernel
theorem dX6_process_10 : decode cX6_process 10 = .ok (.aload_n 0, 1) := by decide +kernel
theorem dX6_process_11 : decode cX6_process 11 = .ok (.invokevirtual 82, 3) := by decide +kernel
theorem dX6_process_14 : decode cX6_process 14 = .ok (.bipush 100, 2) := by decide +kernel
theorem dX6_process_16 : decode cX6_process 16 = .ok (.irem, 1) := by decide +kernel
theorem dX6_process_17 : decode cX6_process 17 = .ok (.aload_n 0, 1) := by decide +kernel
theorem dX6_process_18 : decode cX6_process 18 = .ok (.getfield 46, 3) := by decide +kernel
theorem dX6_process_21 : decode cX6_process 21 = .ok (.if_icmp .ge 38, 3) := by decide +kernel
theorem dX6_process_24 : decode cX6_process 24 = .ok (.aload_n 0, 1) := by decide +kernel
theorem dX6_process_25 : decode cX6_process 25 = .ok (.aload_n 0, 1) := by decide +kernel
theorem dX6_process_26 : decode cX6_process 26 = .ok (.invokevirtual 82, 3) := by decide +kernel
theorem dX6_process_29 : decode cX6_process 29 = .ok (.iconst 4, 1) := by decide +kernel
theorem dX6_process_30 : decode cX6_process 30 = .ok (.irem, 1) := by decide +kernel
theorem dX6_process_31 : decode cX6_process 31 = .ok (.putfield 86, 3) := by decide +kernel
theorem dX6_process_34 : decode cX6_process 34 = .ok (.aload_n 0, 1) := by decide +kernel
theorem dX6_process_35 : decode cX6_process 35 = .ok (.iconst 0, 1) := by decide +kernel
theorem dX6_process_36 : decode cX6_process 36 = .ok (.putfield 89, 3) := by decide +kernel
theorem dX6_process_39 : decode cX6_process 39 = .ok (.aload_n 0, 1) := by decide +kernel
theorem dX6_process_40 : decode cX6_process 40 = .ok (.iload_n 2, 1) := by decide +kernel
theorem dX6_process_41 : decode cX6_process 41 = .ok (.aload_n 0, 1) := by decide +kernel
theorem dX6_process_42 : decode cX6_process 42 = .ok (.getfield 86, 3) := by decide +kernel
theorem dX6_process_45 : decode cX6_process 45 = .ok (.invokestatic 77, 3) := by decide +kernel
theorem dX6_process_48 : decode cX6_process 48 = .ok (.putfield 92, 3) := by decide +kernel
theorem dX6_process_51 : decode cX6_process 51 = .ok (.aload_n 0, 1) := by decide +kernel
theorem dX6_process_52 : decode cX6_process 52 = .ok (.iconst 1, 1) := by decide +kernel
theorem dX6_process_53 : decode cX6_process 53 = .ok (.putfield 95, 3) := by decide +kernel
theorem dX6_process_56 : decode cX6_process 56 = .ok (.goto 69, 3) := by decide +kernel
theorem dX6_process_59 : decode cX6_process 59 = .ok (.aload_n 0, 1) := by decide +kernel
theorem dX6_process_60 : decode cX6_process 60 = .ok (.getfield 89, 3) := by decide +kernel
theorem dX6_process_63 : decode cX6_process 63 = .ok (.bipush (-7), 2) := by decide +kernel
theorem dX6_process_65 : decode cX6_process 65 = .ok (.if_icmp .eq 60, 3) := by decide +kernel
theorem dX6_process_68 : decode cX6_process 68 = .ok (.aload_n 0, 1) := by decide +kernel
theorem dX6_process_69 : decode cX6_process 69 = .ok (.aload_n 0, 1) := by decide +kernel
theorem dX6_process_70 : decode cX6_process 70 = .ok (.getfield 89, 3) := by decide +kernel
theorem dX6_process_73 : decode cX6_process 73 = .ok (.ifCond .ne 19, 3) := by decide +kernel
theorem dX6_process_76 : decode cX6_process 76 = .ok (.aload_n 0, 1) := by decide +kernel
theorem dX6_process_77 : decode cX6_process 77 = .ok (.getfield 92, 3) := by decide +kernel
theorem dX6_process_80 : decode cX6_process 80 = .ok (.iload_n 2, 1) := by decide +kernel
theorem dX6_process_81 : decode cX6_process 81 = .ok (.aload_n 0, 1) := by decide +kernel
theorem dX6_process_82 : decode cX6_process 82 = .ok (.getfield 86, 3) := by decide +kernel
theorem dX6_process_85 : decode cX6_process 85 = .ok (.invokestatic 77, 3) := by decide +kernel
theorem dX6_process_88 : decode cX6_process 88 = .ok (.ixor, 1) := by decide +kernel
theorem dX6_process_89 : decode cX6_process 89 = .ok (.goto 7, 3) := by decide +kernel
theorem dX6_process_92 : decode cX6_process 92 = .ok (.aload_n 0, 1) := by decide +kernel
theorem dX6_process_93 : decode cX6_process 93 = .ok (.getfield 92, 3) := by decide +kernel
theorem dX6_process_96 : decode cX6_process 96 = .ok (.putfield 92, 3) := by decide +kernel
theorem dX6_process_99 : decode cX6_process 99 = .ok (.aload_n 0, 1) := by decide +kernel
theorem dX6_process_100 : decode cX6_process 100 = .ok (.aload_n 0, 1) := by decide +kernel
theorem dX6_process_101 : decode cX6_process 101 = .ok (.getfield 89, 3) := by decide +kernel
theorem dX6_process_104 : decode cX6_process 104 = .ok (.bipush 31, 2) := by decide +kernel
theorem dX6_process_106 : decode cX6_process 106 = .ok (.if_icmp .ge 12, 3) := by decide +kernel
theorem dX6_process_109 : decode cX6_process 109 = .ok (.aload_n 0, 1) := by decide +kernel
theorem dX6_process_110 : decode cX6_process 110 = .ok (.getfield 89, 3) := by decide +kernel
theorem dX6_process_113 : decode cX6_process 113 = .ok (.iconst 1, 1) := by decide +kernel
theorem dX6_process_114 : decode cX6_process 114 = .ok (.iadd, 1) := by decide +kernel
theorem dX6_process_115 : decode cX6_process 115 = .ok (.goto 7, 3) := by decide +kernel
theorem dX6_process_118 : decode cX6_process 118 = .ok (.aload_n 0, 1) := by decide +kernel
theorem dX6_process_119 : decode cX6_process 119 = .ok (.getfield 89, 3) := by decide +kernel
theorem dX6_process_122 : decode cX6_process 122 = .ok (.putfield 89, 3) := by decide +kernel
theorem dX6_process_125 : decode cX6_process 125 = .ok (.return_, 1) := by decide +kernel
set_option maxRecDepth 20000 in
theorem ggX6_travels_X6_process : GoodIn wsX6_travels wsX6_process := goodIn_r _ [6, 7, 8, 9, 10, 11, 12, 13, 14, 5, 15, 16, 17, 18, 19, 20, 21, 22, 23, 24, 25, 26, 27, 28, 29, 30, 31, 32, 33, 34, 35, 36, 37, 38, 39, 40, 41, 42, 43, 44, 45, 46, 47, 48, 49, 50, 51] (by decide +kernel) (by decide +kernel)
set_option maxRecDepth 20000 in
theorem gX6_travels_X6_process : GoodIn wsX6_travels (wsV RX6 99 RX6 yX6_process wsX6_process) := goodIn_app (goodIn_of _ (by decide +kernel)) ggX6_travels_X6_process
theorem dX6_travels_0 : decode cX6_travels 0 = .ok (.iload_n 1, 1) := by decide +kernel
theorem dX6_travels_1 : decode cX6_travels 1 = .ok (.istore_n 2, 1) := by decide +kernel
theorem dX6_travels_2 : decode cX6_travels 2 = .ok (.iload_n 2, 1) := by decide +kernel
theorem dX6_travels_3 : decode cX6_travels 3 = .ok (.bipush (-7), 2) := by decide +kernel
theorem dX6_travels_5 : decode cX6_travels 5 = .ok (.if_icmp .eq 18, 3) := by decide +kernel
theorem dX6_travels_8 : decode cX6_travels 8 = .ok (.aload_n 0, 1) := by decide +kernel
theorem dX6_travels_9 : decode cX6_travels 9 = .ok (.iload_n 2, 1) := by decide +kernel
theorem dX6_travels_10 : decode cX6_travels 10 = .ok (.invokevirtual 99, 3) := by decide +kernel
theorem dX6_travels_13 : decode cX6_travels 13 = .ok (.aload_n 0, 1) := by decide +kernel
theorem dX6_travels_14 : decode cX6_travels 14 = .ok (.getfield 7, 3) := by decide +kernel
theorem dX6_travels_17 : decode cX6_travels 17 = .ok (.iload_n 2, 1) := by decide +kernel
theorem dX6_travels_18 : decode cX6_travels 18 = .ok (.iaload, 1) := by decide +kernel
theorem dX6_travels_19 : decode cX6_travels 19 = .ok (.istore_n 2, 1) := by decide +kernel
theorem dX6_travels_20 : decode cX6_travels 20 = .ok (.goto (-18), 3) := by decide +kernel
theorem dX6_travels_23 : decode cX6_travels 23 = .ok (.return_, 1) := by decide +kernel
theorem dX6_placeOf_0 : decode cX6_placeOf 0 = .ok (.sipush 128, 3) := by decide +kernel
theorem dX6_placeOf_3 : decode cX6_placeOf 3 = .ok (.iload_n 0, 1) := by decide +kernel
theorem dX6_placeOf_4 : decode cX6_placeOf 4 = .ok (.imul, 1) := by decide +kernel
theorem dX6_placeOf_5 : decode cX6_placeOf 5 = .ok (.bipush 32, 2) := by decide +kernel
theorem dX6_placeOf_7 : decode cX6_placeOf 7 = .ok (.iload_n 1, 1) := by decide +kernel
theorem dX6_placeOf_8 : decode cX6_placeOf 8 = .ok (.imul, 1) := by decide +kernel
theorem dX6_placeOf_9 : decode cX6_placeOf 9 = .ok (.iadd, 1) := by decide +kernel
theorem dX6_placeOf_10 : decode cX6_placeOf 10 = .ok (.iload_n 2, 1) := by decide +kernel
theorem dX6_placeOf_11 : decode cX6_placeOf 11 = .ok (.iadd, 1) := by decide +kernel
theorem dX6_placeOf_12 : decode cX6_placeOf 12 = .ok (.ireturn, 1) := by decide +kernel
set_option maxRecDepth 20000 in
theorem ggX6_records_X6_placeOf : GoodIn wsX6_records wsX6_placeOf := goodIn_r _ [10] (by decide +kernel) (by decide +kernel)
set_option maxRecDepth 20000 in
theorem gX6_records_X6_placeOf : GoodIn wsX6_records (va_wsS RX6 109 yX6_placeOf wsX6_placeOf) := goodIn_app (goodIn_of _ (by decide +kernel)) ggX6_records_X6_placeOf
theorem dX6_records_0 : decode cX6_records 0 = .ok (.aload_n 0, 1) := by decide +kernel
theorem dX6_records_1 : decode cX6_records 1 = .ok (.dup, 1) := by decide +kernel
theorem dX6_records_2 : decode cX6_records 2 = .ok (.getfield 103, 3) := by decide +kernel
theorem dX6_records_5 : decode cX6_records 5 = .ok (.iconst 1, 1) := by decide +kernel
theorem dX6_records_6 : decode cX6_records 6 = .ok (.iadd, 1) := by decide +kernel
theorem dX6_records_7 : decode cX6_records 7 = .ok (.putfield 103, 3) := by decide +kernel
theorem dX6_records_10 : decode cX6_records 10 = .ok (.aload_n 0, 1) := by decide +kernel
theorem dX6_records_11 : decode cX6_records 11 = .ok (.getfield 89, 3) := by decide +kernel
theorem dX6_records_14 : decode cX6_records 14 = .ok (.bipush (-7), 2) := by decide +kernel
theorem dX6_records_16 : decode cX6_records 16 = .ok (.if_icmp .ne 16, 3) := by decide +kernel
theorem dX6_records_19 : decode cX6_records 19 = .ok (.aload_n 0, 1) := by decide +kernel
theorem dX6_records_20 : decode cX6_records 20 = .ok (.dup, 1) := by decide +kernel
theorem dX6_records_21 : decode cX6_records 21 = .ok (.getfield 106, 3) := by decide +kernel
theorem dX6_records_24 : decode cX6_records 24 = .ok (.iconst 1, 1) := by decide +kernel
theorem dX6_records_25 : decode cX6_records 25 = .ok (.iadd, 1) := by decide +kernel
theorem dX6_records_26 : decode cX6_records 26 = .ok (.putfield 106, 3) := by decide +kernel
theorem dX6_records_29 : decode cX6_records 29 = .ok (.goto 27, 3) := by decide +kernel
theorem dX6_records_32 : decode cX6_records 32 = .ok (.aload_n 0, 1) := by decide +kernel
theorem dX6_records_33 : decode cX6_records 33 = .ok (.getfield 19, 3) := by decide +kernel
theorem dX6_records_36 : decode cX6_records 36 = .ok (.aload_n 0, 1) := by decide +kernel
theorem dX6_records_37 : decode cX6_records 37 = .ok (.getfield 89, 3) := by decide +kernel
theorem dX6_records_40 : decode cX6_records 40 = .ok (.aload_n 0, 1) := by decide +kernel
theorem dX6_records_41 : decode cX6_records 41 = .ok (.getfield 86, 3) := by decide +kernel
theorem dX6_records_44 : decode cX6_records 44 = .ok (.aload_n 0, 1) := by decide +kernel
theorem dX6_records_45 : decode cX6_records 45 = .ok (.getfield 92, 3) := by decide +kernel
theorem dX6_records_48 : decode cX6_records 48 = .ok (.invokestatic 109, 3) := by decide +kernel
theorem dX6_records_51 : decode cX6_records 51 = .ok (.dup2, 1) := by decide +kernel
theorem dX6_records_52 : decode cX6_records 52 = .ok (.iaload, 1) := by decide +kernel
theorem dX6_records_53 : decode cX6_records 53 = .ok (.iconst 1, 1) := by decide +kernel
theorem dX6_records_54 : decode cX6_records 54 = .ok (.iadd, 1) := by decide +kernel
theorem dX6_records_55 : decode cX6_records 55 = .ok (.iastore, 1) := by decide +kernel
theorem dX6_records_56 : decode cX6_records 56 = .ok (.return_, 1) := by decide +kernel
theorem dX6_clearMarks_0 : decode cX6_clearMarks 0 = .ok (.aload_n 0, 1) := by decide +kernel
theorem dX6_clearMarks_1 : decode cX6_clearMarks 1 = .ok (.getfield 103, 3) := by decide +kernel
theorem dX6_clearMarks_4 : decode cX6_clearMarks 4 = .ok (.istore_n 1, 1) := by decide +kernel
theorem dX6_clearMarks_5 : decode cX6_clearMarks 5 = .ok (.iconst 0, 1) := by decide +kernel
theorem dX6_clearMarks_6 : decode cX6_clearMarks 6 = .ok (.istore_n 2, 1) := by decide +kernel
theorem dX6_clearMarks_7 : decode cX6_clearMarks 7 = .ok (.iload_n 2, 1) := by decide +kernel
theorem dX6_clearMarks_8 : decode cX6_clearMarks 8 = .ok (.sipush 4096, 3) := by decide +kernel
theorem dX6_clearMarks_11 : decode cX6_clearMarks 11 = .ok (.if_icmp .ge 16, 3) := by decide +kernel
theorem dX6_clearMarks_14 : decode cX6_clearMarks 14 = .ok (.aload_n 0, 1) := by decide +kernel
theorem dX6_clearMarks_15 : decode cX6_clearMarks 15 = .ok (.getfield 19, 3) := by decide +kernel
theorem dX6_clearMarks_18 : decode cX6_clearMarks 18 = .ok (.iload_n 2, 1) := by decide +kernel
theorem dX6_clearMarks_19 : decode cX6_clearMarks 19 = .ok (.iconst 0, 1) := by decide +kernel
theorem dX6_clearMarks_20 : decode cX6_clearMarks 20 = .ok (.iastore, 1) := by decide +kernel
theorem dX6_clearMarks_21 : decode cX6_clearMarks 21 = .ok (.iinc 2 1, 3) := by decide +kernel
theorem dX6_clearMarks_24 : decode cX6_clearMarks 24 = .ok (.goto (-17), 3) := by decide +kernel
theorem dX6_clearMarks_27 : decode cX6_clearMarks 27 = .ok (.aload_n 0, 1) := by decide +kernel
theorem dX6_clearMarks_28 : decode cX6_clearMarks 28 = .ok (.iconst 0, 1) := by decide +kernel
theorem dX6_clearMarks_29 : decode cX6_clearMarks 29 = .ok (.putfield 103, 3) := by decide +kernel
theorem dX6_clearMarks_32 : decode cX6_clearMarks 32 = .ok (.aload_n 0, 1) := by decide +kernel
theorem dX6_clearMarks_33 : decode cX6_clearMarks 33 = .ok (.iconst 0, 1) := by decide +kernel
theorem dX6_clearMarks_34 : decode cX6_clearMarks 34 = .ok (.putfield 106, 3) := by decide +kernel
theorem dX6_clearMarks_37 : decode cX6_clearMarks 37 = .ok (.iload_n 1, 1) := by decide +kernel
theorem dX6_clearMarks_38 : decode cX6_clearMarks 38 = .ok (.ireturn, 1) := by decide +kernel
set_option maxRecDepth 20000 in
theorem ggX6_sendPackets_X6_isRouter : GoodIn wsX6_sendPackets wsX6_isRouter := goodIn_r _ [6, 7, 8, 9, 5, 10, 50, 51, 52, 53, 54, 55, 56, 57, 58, 59, 60, 61, 62, 63, 64, 65, 66, 67, 68, 69, 70, 71, 72, 73] (by decide +kernel) (by decide +kernel)
set_option maxRecDepth 20000 in
theorem gX6_sendPackets_X6_isRouter : GoodIn wsX6_sendPackets (wsV RX6 60 RX6 yX6_isRouter wsX6_isRouter) := goodIn_app (goodIn_of _ (by decide +kernel)) ggX6_sendPackets_X6_isRouter
set_option maxRecDepth 20000 in
theorem ggX6_sendPackets_X6_within : GoodIn wsX6_sendPackets wsX6_within := goodIn_r _ [10] (by decide +kernel) (by decide +kernel)
set_option maxRecDepth 20000 in
theorem gX6_sendPackets_X6_within : GoodIn wsX6_sendPackets (va_wsS RX6 56 yX6_within wsX6_within) := goodIn_app (goodIn_of _ (by decide +kernel)) ggX6_sendPackets_X6_within
set_option maxRecDepth 20000 in
theorem ggX6_sendPackets_X6_travels : GoodIn wsX6_sendPackets wsX6_travels := goodIn_r _ [14, 15, 16, 17, 18, 5, 19, 20, 21, 22, 1, 23, 24, 25, 26, 27, 28, 29, 30, 31, 32, 33, 34, 35, 36, 37, 38, 39, 50, 51, 52, 53, 54, 55, 56, 57, 58, 59, 60, 61, 62, 63, 64, 65, 66, 67, 68, 69, 70, 71, 72, 73] (by decide +kernel) (by decide +kernel)
set_option maxRecDepth 20000 in
theorem gX6_sendPackets_X6_travels : GoodIn wsX6_sendPackets (wsV RX6 113 RX6 yX6_travels wsX6_travels) := goodIn_app (goodIn_of _ (by decide +kernel)) ggX6_sendPackets_X6_travels
set_option maxRecDepth 20000 in
theorem ggX6_sendPackets_X6_records : GoodIn wsX6_sendPackets wsX6_records := goodIn_r _ [43, 44, 1, 45, 46, 22, 23, 47, 48, 5, 49, 50, 51, 52, 53, 54, 55, 56, 57, 58, 59, 60, 61, 62, 63, 64, 65, 66, 67, 68, 69, 70, 71, 72, 73] (by decide +kernel) (by decide +kernel)
set_option maxRecDepth 20000 in
theorem gX6_sendPackets_X6_records : GoodIn wsX6_sendPackets (wsV RX6 116 RX6 yX6_records wsX6_records) := goodIn_app (goodIn_of _ (by decide +kernel)) ggX6_sendPackets_X6_records
theorem dX6_sendPackets_0 : decode cX6_sendPackets 0 = .ok (.aload_n 0, 1) := by decide +kernel
theorem dX6_sendPackets_1 : decode cX6_sendPackets 1 = .ok (.iload_n 1, 1) := by decide +kernel
theorem dX6_sendPackets_2 : decode cX6_sendPackets 2 = .ok (.invokevirtual 60, 3) := by decide +kernel
theorem dX6_sendPackets_5 : decode cX6_sendPackets 5 = .ok (.ifCond .ne 5, 3) := by decide +kernel
theorem dX6_sendPackets_8 : decode cX6_sendPackets 8 = .ok (.iconst (-1), 1) := by decide +kernel
theorem dX6_sendPackets_9 : decode cX6_sendPackets 9 = .ok (.ireturn, 1) := by decide +kernel
theorem dX6_sendPackets_10 : decode cX6_sendPackets 10 = .ok (.iload_n 2, 1) := by decide +kernel
theorem dX6_sendPackets_11 : decode cX6_sendPackets 11 = .ok (.iconst 1, 1) := by decide +kernel
theorem dX6_sendPackets_12 : decode cX6_sendPackets 12 = .ok (.sipush 500, 3) := by decide +kernel
theorem dX6_sendPackets_15 : decode cX6_sendPackets 15 = .ok (.invokestatic 56, 3) := by decide +kernel
theorem dX6_sendPackets_18 : decode cX6_sendPackets 18 = .ok (.ifCond .ne 6, 3) := by decide +kernel
theorem dX6_sendPackets_21 : decode cX6_sendPackets 21 = .ok (.bipush (-2), 2) := by decide +kernel
theorem dX6_sendPackets_23 : decode cX6_sendPackets 23 = .ok (.ireturn, 1) := by decide +kernel
theorem dX6_sendPackets_24 : decode cX6_sendPackets 24 = .ok (.iconst 0, 1) := by decide +kernel
theorem dX6_sendPackets_25 : decode cX6_sendPackets 25 = .ok (.istore_n 3, 1) := by decide +kernel
theorem dX6_sendPackets_26 : decode cX6_sendPackets 26 = .ok (.iconst 0, 1) := by decide +kernel
theorem dX6_sendPackets_27 : decode cX6_sendPackets 27 = .ok (.istore 4, 2) := by decide +kernel
theorem dX6_sendPackets_29 : decode cX6_sendPackets 29 = .ok (.iload 4, 2) := by decide +kernel
theorem dX6_sendPackets_31 : decode cX6_sendPackets 31 = .ok (.iload_n 2, 1) := by decide +kernel
theorem dX6_sendPackets_32 : decode cX6_sendPackets 32 = .ok (.if_icmp .ge 41, 3) := by decide +kernel
theorem dX6_sendPackets_35 : decode cX6_sendPackets 35 = .ok (.aload_n 0, 1) := by decide +kernel
theorem dX6_sendPackets_36 : decode cX6_sendPackets 36 = .ok (.bipush (-7), 2) := by decide +kernel
theorem dX6_sendPackets_38 : decode cX6_sendPackets 38 = .ok (.putfield 89, 3) := by decide +kernel
theorem dX6_sendPackets_41 : decode cX6_sendPackets 41 = .ok (.aload_n 0, 1) := by decide +kernel
theorem dX6_sendPackets_42 : decode cX6_sendPackets 42 = .ok (.iload_n 1, 1) := by decide +kernel
theorem dX6_sendPackets_43 : decode cX6_sendPackets 43 = .ok (.invokevirtual 113, 3) := by decide +kernel
theorem dX6_sendPackets_46 : decode cX6_sendPackets 46 = .ok (.aload_n 0, 1) := by decide +kernel
theorem dX6_sendPackets_47 : decode cX6_sendPackets 47 = .ok (.invokevirtual 116, 3) := by decide +kernel
theorem dX6_sendPackets_50 : decode cX6_sendPackets 50 = .ok (.iload_n 3, 1) := by decide +kernel
theorem dX6_sendPackets_51 : decode cX6_sendPackets 51 = .ok (.aload_n 0, 1) := by decide +kernel
theorem dX6_sendPackets_52 : decode cX6_sendPackets 52 = .ok (.getfield 89, 3) := by decide +kernel
theorem dX6_sendPackets_55 : decode cX6_sendPackets 55 = .ok (.bipush (-7), 2) := by decide +kernel
theorem dX6_sendPackets_57 : decode cX6_sendPackets 57 = .ok (.if_icmp .ne 7, 3) := by decide +kernel
theorem dX6_sendPackets_60 : decode cX6_sendPackets 60 = .ok (.iconst 0, 1) := by decide +kernel
theorem dX6_sendPackets_61 : decode cX6_sendPackets 61 = .ok (.goto 4, 3) := by decide +kernel
theorem dX6_sendPackets_64 : decode cX6_sendPackets 64 = .ok (.iconst 1, 1) := by decide +kernel
theorem dX6_sendPackets_65 : decode cX6_sendPackets 65 = .ok (.iadd, 1) := by decide +kernel
theorem dX6_sendPackets_66 : decode cX6_sendPackets 66 = .ok (.istore_n 3, 1) := by decide +kernel
theorem dX6_sendPackets_67 : decode cX6_sendPackets 67 = .ok (.iinc 4 1, 3) := by decide +kernel
theorem dX6_sendPackets_70 : decode cX6_sendPackets 70 = .ok (.goto (-41), 3) := by decide +kernel
theorem dX6_sendPackets_73 : decode cX6_sendPackets 73 = .ok (.iload_n 3, 1) := by decide +kernel
theorem dX6_sendPackets_74 : decode cX6_sendPackets 74 = .ok (.ireturn, 1) := by decide +kernel
set_option maxRecDepth 20000 in
theorem ggX6_isMark_X6_within : GoodIn wsX6_isMark wsX6_within := goodIn_r _ [4] (by decide +kernel) (by decide +kernel)
set_option maxRecDepth 20000 in
theorem gX6_isMark_X6_within : GoodIn wsX6_isMark (va_wsS RX6 56 yX6_within wsX6_within) := goodIn_app (goodIn_of _ (by decide +kernel)) ggX6_isMark_X6_within
theorem dX6_isMark_0 : decode cX6_isMark 0 = .ok (.iload_n 0, 1) := by decide +kernel
theorem dX6_isMark_1 : decode cX6_isMark 1 = .ok (.iconst 0, 1) := by decide +kernel
theorem dX6_isMark_2 : decode cX6_isMark 2 = .ok (.bipush 31, 2) := by decide +kernel
theorem dX6_isMark_4 : decode cX6_isMark 4 = .ok (.invokestatic 56, 3) := by decide +kernel
theorem dX6_isMark_7 : decode cX6_isMark 7 = .ok (.ifCond .eq 26, 3) := by decide +kernel
theorem dX6_isMark_10 : decode cX6_isMark 10 = .ok (.iload_n 1, 1) := by decide +kernel
theorem dX6_isMark_11 : decode cX6_isMark 11 = .ok (.iconst 0, 1) := by decide +kernel
theorem dX6_isMark_12 : decode cX6_isMark 12 = .ok (.iconst 3, 1) := by decide +kernel
theorem dX6_isMark_13 : decode cX6_isMark 13 = .ok (.invokestatic 56, 3) := by decide +kernel
theorem dX6_isMark_16 : decode cX6_isMark 16 = .ok (.ifCond .eq 17, 3) := by decide +kernel
theorem dX6_isMark_19 : decode cX6_isMark 19 = .ok (.iload_n 2, 1) := by decide +kernel
theorem dX6_isMark_20 : decode cX6_isMark 20 = .ok (.iconst 0, 1) := by decide +kernel
theorem dX6_isMark_21 : decode cX6_isMark 21 = .ok (.bipush 31, 2) := by decide +kernel
theorem dX6_isMark_23 : decode cX6_isMark 23 = .ok (.invokestatic 56, 3) := by decide +kernel
theorem dX6_isMark_26 : decode cX6_isMark 26 = .ok (.ifCond .eq 7, 3) := by decide +kernel
theorem dX6_isMark_29 : decode cX6_isMark 29 = .ok (.iconst 1, 1) := by decide +kernel
theorem dX6_isMark_30 : decode cX6_isMark 30 = .ok (.goto 4, 3) := by decide +kernel
theorem dX6_isMark_33 : decode cX6_isMark 33 = .ok (.iconst 0, 1) := by decide +kernel
theorem dX6_isMark_34 : decode cX6_isMark 34 = .ok (.ireturn, 1) := by decide +kernel
set_option maxRecDepth 20000 in
theorem ggX6_sendForged_X6_isRouter : GoodIn wsX6_sendForged wsX6_isRouter := goodIn_r _ [9, 10, 11, 12, 8, 13, 53, 54, 55, 56, 57, 58, 59, 60, 61, 62, 63, 64, 65, 66, 67, 68, 69, 70, 71, 72, 73, 74, 75, 76] (by decide +kernel) (by decide +kernel)
set_option maxRecDepth 20000 in
theorem gX6_sendForged_X6_isRouter : GoodIn wsX6_sendForged (wsV RX6 60 RX6 yX6_isRouter wsX6_isRouter) := goodIn_app (goodIn_of _ (by decide +kernel)) ggX6_sendForged_X6_isRouter
set_option maxRecDepth 20000 in
theorem ggX6_sendForged_X6_within : GoodIn wsX6_sendForged wsX6_within := goodIn_r _ [13] (by decide +kernel) (by decide +kernel)
set_option maxRecDepth 20000 in
theorem gX6_sendForged_X6_within : GoodIn wsX6_sendForged (va_wsS RX6 56 yX6_within wsX6_within) := goodIn_app (goodIn_of _ (by decide +kernel)) ggX6_sendForged_X6_within
set_option maxRecDepth 20000 in
theorem ggX6_sendForged_X6_isMark : GoodIn wsX6_sendForged wsX6_isMark := goodIn_r _ [16, 11, 12, 8, 13] (by decide +kernel) (by decide +kernel)
set_option maxRecDepth 20000 in
theorem gX6_sendForged_X6_isMark : GoodIn wsX6_sendForged (va_wsS RX6 119 yX6_isMark wsX6_isMark) := goodIn_app (goodIn_of _ (by decide +kernel)) ggX6_sendForged_X6_isMark
set_option maxRecDepth 20000 in
theorem ggX6_sendForged_X6_travels : GoodIn wsX6_sendForged wsX6_travels := goodIn_r _ [20, 21, 22, 23, 24, 8, 25, 26, 27, 2, 1, 3, 4, 28, 29, 30, 31, 32, 33, 34, 35, 36, 37, 38, 39, 40, 41, 42, 53, 54, 55, 56, 57, 58, 59, 60, 61, 62, 63, 64, 65, 66, 67, 68, 69, 70, 71, 72, 73, 74, 75, 76] (by decide +kernel) (by decide +kernel)
set_option maxRecDepth 20000 in
theorem gX6_sendForged_X6_travels : GoodIn wsX6_sendForged (wsV RX6 113 RX6 yX6_travels wsX6_travels) := goodIn_app (goodIn_of _ (by decide +kernel)) ggX6_sendForged_X6_travels
set_option maxRecDepth 20000 in
theorem ggX6_sendForged_X6_records : GoodIn wsX6_sendForged wsX6_records := goodIn_r _ [46, 47, 1, 48, 49, 2, 3, 50, 51, 8, 52, 53, 54, 55, 56, 57, 58, 59, 60, 61, 62, 63, 64, 65, 66, 67, 68, 69, 70, 71, 72, 73, 74, 75, 76] (by decide +kernel) (by decide +kernel)
set_option maxRecDepth 20000 in
theorem gX6_sendForged_X6_records : GoodIn wsX6_sendForged (wsV RX6 116 RX6 yX6_records wsX6_records) := goodIn_app (goodIn_of _ (by decide +kernel)) ggX6_sendForged_X6_records
theorem dX6_sendForged_0 : decode cX6_sendForged 0 = .ok (.aload_n 0, 1) := by decide +kernel
theorem dX6_sendForged_1 : decode cX6_sendForged 1 = .ok (.iload_n 1, 1) := by decide +kernel
theorem dX6_sendForged_2 : decode cX6_sendForged 2 = .ok (.invokevirtual 60, 3) := by decide +kernel
theorem dX6_sendForged_5 : decode cX6_sendForged 5 = .ok (.ifCond .ne 5, 3) := by decide +kernel
theorem dX6_sendForged_8 : decode cX6_sendForged 8 = .ok (.iconst (-1), 1) := by decide +kernel
theorem dX6_sendForged_9 : decode cX6_sendForged 9 = .ok (.ireturn, 1) := by decide +kernel
theorem dX6_sendForged_10 : decode cX6_sendForged 10 = .ok (.iload_n 2, 1) := by decide +kernel
theorem dX6_sendForged_11 : decode cX6_sendForged 11 = .ok (.iconst 1, 1) := by decide +kernel
theorem dX6_sendForged_12 : decode cX6_sendForged 12 = .ok (.sipush 500, 3) := by decide +kernel
theorem dX6_sendForged_15 : decode cX6_sendForged 15 = .ok (.invokestatic 56, 3) := by decide +kernel
theorem dX6_sendForged_18 : decode cX6_sendForged 18 = .ok (.ifCond .eq 14, 3) := by decide +kernel
theorem dX6_sendForged_21 : decode cX6_sendForged 21 = .ok (.iload_n 3, 1) := by decide +kernel
theorem dX6_sendForged_22 : decode cX6_sendForged 22 = .ok (.iload 4, 2) := by decide +kernel
theorem dX6_sendForged_24 : decode cX6_sendForged 24 = .ok (.iload 5, 2) := by decide +kernel
theorem dX6_sendForged_26 : decode cX6_sendForged 26 = .ok (.invokestatic 119, 3) := by decide +kernel
theorem dX6_sendForged_29 : decode cX6_sendForged 29 = .ok (.ifCond .ne 6, 3) := by decide +kernel
theorem dX6_sendForged_32 : decode cX6_sendForged 32 = .ok (.bipush (-2), 2) := by decide +kernel
theorem dX6_sendForged_34 : decode cX6_sendForged 34 = .ok (.ireturn, 1) := by decide +kernel
theorem dX6_sendForged_35 : decode cX6_sendForged 35 = .ok (.iconst 0, 1) := by decide +kernel
theorem dX6_sendForged_36 : decode cX6_sendForged 36 = .ok (.istore 6, 2) := by decide +kernel
theorem dX6_sendForged_38 : decode cX6_sendForged 38 = .ok (.iconst 0, 1) := by decide +kernel
theorem dX6_sendForged_39 : decode cX6_sendForged 39 = .ok (.istore 7, 2) := by decide +kernel
theorem dX6_sendForged_41 : decode cX6_sendForged 41 = .ok (.iload 7, 2) := by decide +kernel
theorem dX6_sendForged_43 : decode cX6_sendForged 43 = .ok (.iload_n 2, 1) := by decide +kernel
theorem dX6_sendForged_44 : decode cX6_sendForged 44 = .ok (.if_icmp .ge 57, 3) := by decide +kernel
theorem dX6_sendForged_47 : decode cX6_sendForged 47 = .ok (.aload_n 0, 1) := by decide +kernel
theorem dX6_sendForged_48 : decode cX6_sendForged 48 = .ok (.iload_n 3, 1) := by decide +kernel
theorem dX6_sendForged_49 : decode cX6_sendForged 49 = .ok (.putfield 89, 3) := by decide +kernel
theorem dX6_sendForged_52 : decode cX6_sendForged 52 = .ok (.aload_n 0, 1) := by decide +kernel
theorem dX6_sendForged_53 : decode cX6_sendForged 53 = .ok (.iload 4, 2) := by decide +kernel
theorem dX6_sendForged_55 : decode cX6_sendForged 55 = .ok (.putfield 86, 3) := by decide +kernel
theorem dX6_sendForged_58 : decode cX6_sendForged 58 = .ok (.aload_n 0, 1) := by decide +kernel
theorem dX6_sendForged_59 : decode cX6_sendForged 59 = .ok (.iload 5, 2) := by decide +kernel
theorem dX6_sendForged_61 : decode cX6_sendForged 61 = .ok (.putfield 92, 3) := by decide +kernel
theorem dX6_sendForged_64 : decode cX6_sendForged 64 = .ok (.aload_n 0, 1) := by decide +kernel
theorem dX6_sendForged_65 : decode cX6_sendForged 65 = .ok (.iconst 0, 1) := by decide +kernel
theorem dX6_sendForged_66 : decode cX6_sendForged 66 = .ok (.putfield 95, 3) := by decide +kernel
theorem dX6_sendForged_69 : decode cX6_sendForged 69 = .ok (.aload_n 0, 1) := by decide +kernel
theorem dX6_sendForged_70 : decode cX6_sendForged 70 = .ok (.iload_n 1, 1) := by decide +kernel
theorem dX6_sendForged_71 : decode cX6_sendForged 71 = .ok (.invokevirtual 113, 3) := by decide +kernel
theorem dX6_sendForged_74 : decode cX6_sendForged 74 = .ok (.aload_n 0, 1) := by decide +kernel
theorem dX6_sendForged_75 : decode cX6_sendForged 75 = .ok (.invokevirtual 116, 3) := by decide +kernel
theorem dX6_sendForged_78 : decode cX6_sendForged 78 = .ok (.iload 6, 2) := by decide +kernel
theorem dX6_sendForged_80 : decode cX6_sendForged 80 = .ok (.aload_n 0, 1) := by decide +kernel
theorem dX6_sendForged_81 : decode cX6_sendForged 81 = .ok (.getfield 95, 3) := by decide +kernel
theorem dX6_sendForged_84 : decode cX6_sendForged 84 = .ok (.ifCond .eq 7, 3) := by decide +kernel
theorem dX6_sendForged_87 : decode cX6_sendForged 87 = .ok (.iconst 1, 1) := by decide +kernel
theorem dX6_sendForged_88 : decode cX6_sendForged 88 = .ok (.goto 4, 3) := by decide +kernel
theorem dX6_sendForged_91 : decode cX6_sendForged 91 = .ok (.iconst 0, 1) := by decide +kernel
theorem dX6_sendForged_92 : decode cX6_sendForged 92 = .ok (.iadd, 1) := by decide +kernel
theorem dX6_sendForged_93 : decode cX6_sendForged 93 = .ok (.istore 6, 2) := by decide +kernel
theorem dX6_sendForged_95 : decode cX6_sendForged 95 = .ok (.iinc 7 1, 3) := by decide +kernel
theorem dX6_sendForged_98 : decode cX6_sendForged 98 = .ok (.goto (-57), 3) := by decide +kernel
theorem dX6_sendForged_101 : decode cX6_sendForged 101 = .ok (.iload 6, 2) := by decide +kernel
theorem dX6_sendForged_103 : decode cX6_sendForged 103 = .ok (.ireturn, 1) := by decide +kernel
theorem dX6_packetsAt_0 : decode cX6_packetsAt 0 = .ok (.iconst 0, 1) := by decide +kernel
theorem dX6_packetsAt_1 : decode cX6_packetsAt 1 = .ok (.istore_n 2, 1) := by decide +kernel
theorem dX6_packetsAt_2 : decode cX6_packetsAt 2 = .ok (.sipush 128, 3) := by decide +kernel
theorem dX6_packetsAt_5 : decode cX6_packetsAt 5 = .ok (.iload_n 1, 1) := by decide +kernel
theorem dX6_packetsAt_6 : decode cX6_packetsAt 6 = .ok (.imul, 1) := by decide +kernel
theorem dX6_packetsAt_7 : decode cX6_packetsAt 7 = .ok (.istore_n 3, 1) := by decide +kernel
theorem dX6_packetsAt_8 : decode cX6_packetsAt 8 = .ok (.iload_n 3, 1) := by decide +kernel
theorem dX6_packetsAt_9 : decode cX6_packetsAt 9 = .ok (.sipush 128, 3) := by decide +kernel
theorem dX6_packetsAt_12 : decode cX6_packetsAt 12 = .ok (.iload_n 1, 1) := by decide +kernel
theorem dX6_packetsAt_13 : decode cX6_packetsAt 13 = .ok (.imul, 1) := by decide +kernel
theorem dX6_packetsAt_14 : decode cX6_packetsAt 14 = .ok (.sipush 128, 3) := by decide +kernel
theorem dX6_packetsAt_17 : decode cX6_packetsAt 17 = .ok (.iadd, 1) := by decide +kernel
theorem dX6_packetsAt_18 : decode cX6_packetsAt 18 = .ok (.if_icmp .ge 18, 3) := by decide +kernel
theorem dX6_packetsAt_21 : decode cX6_packetsAt 21 = .ok (.iload_n 2, 1) := by decide +kernel
theorem dX6_packetsAt_22 : decode cX6_packetsAt 22 = .ok (.aload_n 0, 1) := by decide +kernel
theorem dX6_packetsAt_23 : decode cX6_packetsAt 23 = .ok (.getfield 19, 3) := by decide +kernel
theorem dX6_packetsAt_26 : decode cX6_packetsAt 26 = .ok (.iload_n 3, 1) := by decide +kernel
theorem dX6_packetsAt_27 : decode cX6_packetsAt 27 = .ok (.iaload, 1) := by decide +kernel
theorem dX6_packetsAt_28 : decode cX6_packetsAt 28 = .ok (.iadd, 1) := by decide +kernel
theorem dX6_packetsAt_29 : decode cX6_packetsAt 29 = .ok (.istore_n 2, 1) := by decide +kernel
theorem dX6_packetsAt_30 : decode cX6_packetsAt 30 = .ok (.iinc 3 1, 3) := by decide +kernel
theorem dX6_packetsAt_33 : decode cX6_packetsAt 33 = .ok (.goto (-25), 3) := by decide +kernel
theorem dX6_packetsAt_36 : decode cX6_packetsAt 36 = .ok (.iload_n 2, 1) := by decide +kernel
theorem dX6_packetsAt_37 : decode cX6_packetsAt 37 = .ok (.ireturn, 1) := by decide +kernel
set_option maxRecDepth 20000 in
theorem ggX6_packetsAtDistance_X6_within : GoodIn wsX6_packetsAtDistance wsX6_within := goodIn_r _ [4] (by decide +kernel) (by decide +kernel)
set_option maxRecDepth 20000 in
theorem gX6_packetsAtDistance_X6_within : GoodIn wsX6_packetsAtDistance (va_wsS RX6 56 yX6_within wsX6_within) := goodIn_app (goodIn_of _ (by decide +kernel)) ggX6_packetsAtDistance_X6_within
set_option maxRecDepth 20000 in
theorem ggX6_packetsAtDistance_X6_packetsAt : GoodIn wsX6_packetsAtDistance wsX6_packetsAt := goodIn_r _ [8, 9, 10, 11, 12, 13, 14, 15, 16, 17, 18, 19, 20, 21, 22, 23, 24, 25, 26, 27, 28, 29, 30, 31, 32, 33] (by decide +kernel) (by decide +kernel)
set_option maxRecDepth 20000 in
theorem gX6_packetsAtDistance_X6_packetsAt : GoodIn wsX6_packetsAtDistance (wsV RX6 122 RX6 yX6_packetsAt wsX6_packetsAt) := goodIn_app (goodIn_of _ (by decide +kernel)) ggX6_packetsAtDistance_X6_packetsAt
theorem dX6_packetsAtDistance_0 : decode cX6_packetsAtDistance 0 = .ok (.iload_n 1, 1) := by decide +kernel
theorem dX6_packetsAtDistance_1 : decode cX6_packetsAtDistance 1 = .ok (.iconst 0, 1) := by decide +kernel
theorem dX6_packetsAtDistance_2 : decode cX6_packetsAtDistance 2 = .ok (.bipush 31, 2) := by decide +kernel
theorem dX6_packetsAtDistance_4 : decode cX6_packetsAtDistance 4 = .ok (.invokestatic 56, 3) := by decide +kernel
theorem dX6_packetsAtDistance_7 : decode cX6_packetsAtDistance 7 = .ok (.ifCond .eq 11, 3) := by decide +kernel
theorem dX6_packetsAtDistance_10 : decode cX6_packetsAtDistance 10 = .ok (.aload_n 0, 1) := by decide +kernel
theorem dX6_packetsAtDistance_11 : decode cX6_packetsAtDistance 11 = .ok (.iload_n 1, 1) := by decide +kernel
theorem dX6_packetsAtDistance_12 : decode cX6_packetsAtDistance 12 = .ok (.invokevirtual 122, 3) := by decide +kernel
theorem dX6_packetsAtDistance_15 : decode cX6_packetsAtDistance 15 = .ok (.goto 5, 3) := by decide +kernel
theorem dX6_packetsAtDistance_18 : decode cX6_packetsAtDistance 18 = .ok (.bipush (-2), 2) := by decide +kernel
theorem dX6_packetsAtDistance_20 : decode cX6_packetsAtDistance 20 = .ok (.ireturn, 1) := by decide +kernel
theorem dX6_unmarkedCount_0 : decode cX6_unmarkedCount 0 = .ok (.aload_n 0, 1) := by decide +kernel
theorem dX6_unmarkedCount_1 : decode cX6_unmarkedCount 1 = .ok (.getfield 106, 3) := by decide +kernel
theorem dX6_unmarkedCount_4 : decode cX6_unmarkedCount 4 = .ok (.ireturn, 1) := by decide +kernel
set_option maxRecDepth 20000 in
theorem ggX6_markCount_X6_isMark : GoodIn wsX6_markCount wsX6_isMark := goodIn_r _ [5, 6, 7, 4, 8] (by decide +kernel) (by decide +kernel)
set_option maxRecDepth 20000 in
theorem gX6_markCount_X6_isMark : GoodIn wsX6_markCount (va_wsS RX6 119 yX6_isMark wsX6_isMark) := goodIn_app (goodIn_of _ (by decide +kernel)) ggX6_markCount_X6_isMark
set_option maxRecDepth 20000 in
theorem ggX6_markCount_X6_placeOf : GoodIn wsX6_markCount wsX6_placeOf := goodIn_r _ [11] (by decide +kernel) (by decide +kernel)
set_option maxRecDepth 20000 in
theorem gX6_markCount_X6_placeOf : GoodIn wsX6_markCount (va_wsS RX6 109 yX6_placeOf wsX6_placeOf) := goodIn_app (goodIn_of _ (by decide +kernel)) ggX6_markCount_X6_placeOf
theorem dX6_markCount_0 : decode cX6_markCount 0 = .ok (.iload_n 1, 1) := by decide +kernel
theorem dX6_markCount_1 : decode cX6_markCount 1 = .ok (.iload_n 2, 1) := by decide +kernel
theorem dX6_markCount_2 : decode cX6_markCount 2 = .ok (.iload_n 3, 1) := by decide +kernel
theorem dX6_markCount_3 : decode cX6_markCount 3 = .ok (.invokestatic 119, 3) := by decide +kernel
theorem dX6_markCount_6 : decode cX6_markCount 6 = .ok (.ifCond .eq 17, 3) := by decide +kernel
theorem dX6_markCount_9 : decode cX6_markCount 9 = .ok (.aload_n 0, 1) := by decide +kernel
theorem dX6_markCount_10 : decode cX6_markCount 10 = .ok (.getfield 19, 3) := by decide +kernel
theorem dX6_markCount_13 : decode cX6_markCount 13 = .ok (.iload_n 1, 1) := by decide +kernel
theorem dX6_markCount_14 : decode cX6_markCount 14 = .ok (.iload_n 2, 1) := by decide +kernel
theorem dX6_markCount_15 : decode cX6_markCount 15 = .ok (.iload_n 3, 1) := by decide +kernel
theorem dX6_markCount_16 : decode cX6_markCount 16 = .ok (.invokestatic 109, 3) := by decide +kernel
theorem dX6_markCount_19 : decode cX6_markCount 19 = .ok (.iaload, 1) := by decide +kernel
theorem dX6_markCount_20 : decode cX6_markCount 20 = .ok (.goto 5, 3) := by decide +kernel
theorem dX6_markCount_23 : decode cX6_markCount 23 = .ok (.bipush (-2), 2) := by decide +kernel
theorem dX6_markCount_25 : decode cX6_markCount 25 = .ok (.ireturn, 1) := by decide +kernel
set_option maxRecDepth 20000 in
theorem ggX6_different_X6_placeOf : GoodIn wsX6_different wsX6_placeOf := goodIn_r _ [5] (by decide +kernel) (by decide +kernel)
set_option maxRecDepth 20000 in
theorem gX6_different_X6_placeOf : GoodIn wsX6_different (va_wsS RX6 109 yX6_placeOf wsX6_placeOf) := goodIn_app (goodIn_of _ (by decide +kernel)) ggX6_different_X6_placeOf
theorem dX6_different_0 : decode cX6_different 0 = .ok (.iconst 0, 1) := by decide +kernel
theorem dX6_different_1 : decode cX6_different 1 = .ok (.istore_n 3, 1) := by decide +kernel
theorem dX6_different_2 : decode cX6_different 2 = .ok (.iconst 0, 1) := by decide +kernel
theorem dX6_different_3 : decode cX6_different 3 = .ok (.istore 4, 2) := by decide +kernel
theorem dX6_different_5 : decode cX6_different 5 = .ok (.iload 4, 2) := by decide +kernel
theorem dX6_different_7 : decode cX6_different 7 = .ok (.bipush 32, 2) := by decide +kernel
theorem dX6_different_9 : decode cX6_different 9 = .ok (.if_icmp .ge 32, 3) := by decide +kernel
theorem dX6_different_12 : decode cX6_different 12 = .ok (.iload_n 3, 1) := by decide +kernel
theorem dX6_different_13 : decode cX6_different 13 = .ok (.aload_n 0, 1) := by decide +kernel
theorem dX6_different_14 : decode cX6_different 14 = .ok (.getfield 19, 3) := by decide +kernel
theorem dX6_different_17 : decode cX6_different 17 = .ok (.iload_n 1, 1) := by decide +kernel
theorem dX6_different_18 : decode cX6_different 18 = .ok (.iload_n 2, 1) := by decide +kernel
theorem dX6_different_19 : decode cX6_different 19 = .ok (.iload 4, 2) := by decide +kernel
theorem dX6_different_21 : decode cX6_different 21 = .ok (.invokestatic 109, 3) := by decide +kernel
theorem dX6_different_24 : decode cX6_different 24 = .ok (.iaload, 1) := by decide +kernel
theorem dX6_different_25 : decode cX6_different 25 = .ok (.ifCond .le 7, 3) := by decide +kernel
theorem dX6_different_28 : decode cX6_different 28 = .ok (.iconst 1, 1) := by decide +kernel
theorem dX6_different_29 : decode cX6_different 29 = .ok (.goto 4, 3) := by decide +kernel
theorem dX6_different_32 : decode cX6_different 32 = .ok (.iconst 0, 1) := by decide +kernel
theorem dX6_different_33 : decode cX6_different 33 = .ok (.iadd, 1) := by decide +kernel
theorem dX6_different_34 : decode cX6_different 34 = .ok (.istore_n 3, 1) := by decide +kernel
theorem dX6_different_35 : decode cX6_different 35 = .ok (.iinc 4 1, 3) := by decide +kernel
theorem dX6_different_38 : decode cX6_different 38 = .ok (.goto (-33), 3) := by decide +kernel
theorem dX6_different_41 : decode cX6_different 41 = .ok (.iload_n 3, 1) := by decide +kernel
theorem dX6_different_42 : decode cX6_different 42 = .ok (.ireturn, 1) := by decide +kernel
set_option maxRecDepth 20000 in
theorem ggX6_fragmentCount_X6_isMark : GoodIn wsX6_fragmentCount wsX6_isMark := goodIn_r _ [4, 5, 6, 3, 7] (by decide +kernel) (by decide +kernel)
set_option maxRecDepth 20000 in
theorem gX6_fragmentCount_X6_isMark : GoodIn wsX6_fragmentCount (va_wsS RX6 119 yX6_isMark wsX6_isMark) := goodIn_app (goodIn_of _ (by decide +kernel)) ggX6_fragmentCount_X6_isMark
set_option maxRecDepth 20000 in
theorem ggX6_fragmentCount_X6_different : GoodIn wsX6_fragmentCount wsX6_different := goodIn_r _ [11, 12, 13, 14, 3, 15, 16, 17, 18, 19, 20, 21, 22, 23, 24, 25, 26, 27, 28, 29, 30, 31, 32, 33, 34, 35, 36, 37, 38, 39] (by decide +kernel) (by decide +kernel)
set_option maxRecDepth 20000 in
theorem gX6_fragmentCount_X6_different : GoodIn wsX6_fragmentCount (wsV RX6 125 RX6 yX6_different wsX6_different) := goodIn_app (goodIn_of _ (by decide +kernel)) ggX6_fragmentCount_X6_different
theorem dX6_fragmentCount_0 : decode cX6_fragmentCount 0 = .ok (.iload_n 1, 1) := by decide +kernel
theorem dX6_fragmentCount_1 : decode cX6_fragmentCount 1 = .ok (.iload_n 2, 1) := by decide +kernel
theorem dX6_fragmentCount_2 : decode cX6_fragmentCount 2 = .ok (.iconst 0, 1) := by decide +kernel
theorem dX6_fragmentCount_3 : decode cX6_fragmentCount 3 = .ok (.invokestatic 119, 3) := by decide +kernel
theorem dX6_fragmentCount_6 : decode cX6_fragmentCount 6 = .ok (.ifCond .eq 12, 3) := by decide +kernel
theorem dX6_fragmentCount_9 : decode cX6_fragmentCount 9 = .ok (.aload_n 0, 1) := by decide +kernel
theorem dX6_fragmentCount_10 : decode cX6_fragmentCount 10 = .ok (.iload_n 1, 1) := by decide +kernel
theorem dX6_fragmentCount_11 : decode cX6_fragmentCount 11 = .ok (.iload_n 2, 1) := by decide +kernel
theorem dX6_fragmentCount_12 : decode cX6_fragmentCount 12 = .ok (.invokevirtual 125, 3) := by decide +kernel
theorem dX6_fragmentCount_15 : decode cX6_fragmentCount 15 = .ok (.goto 5, 3) := by decide +kernel
theorem dX6_fragmentCount_18 : decode cX6_fragmentCount 18 = .ok (.bipush (-2), 2) := by decide +kernel
theorem dX6_fragmentCount_20 : decode cX6_fragmentCount 20 = .ok (.ireturn, 1) := by decide +kernel
set_option maxRecDepth 20000 in
theorem ggX6_greatestDistance_X6_packetsAt : GoodIn wsX6_greatestDistance wsX6_packetsAt := goodIn_r _ [5, 6, 7, 8, 9, 10, 11, 12, 13, 14, 15, 16, 17, 18, 19, 20, 21, 22, 23, 24, 25, 26, 27, 28, 29, 30] (by decide +kernel) (by decide +kernel)
set_option maxRecDepth 20000 in
theorem gX6_greatestDistance_X6_packetsAt : GoodIn wsX6_greatestDistance (wsV RX6 122 RX6 yX6_packetsAt wsX6_packetsAt) := goodIn_app (goodIn_of _ (by decide +kernel)) ggX6_greatestDistance_X6_packetsAt
theorem dX6_greatestDistance_0 : decode cX6_greatestDistance 0 = .ok (.bipush 31, 2) := by decide +kernel
theorem dX6_greatestDistance_2 : decode cX6_greatestDistance 2 = .ok (.istore_n 1, 1) := by decide +kernel
theorem dX6_greatestDistance_3 : decode cX6_greatestDistance 3 = .ok (.iload_n 1, 1) := by decide +kernel
theorem dX6_greatestDistance_4 : decode cX6_greatestDistance 4 = .ok (.ifCond .lt 19, 3) := by decide +kernel
theorem dX6_greatestDistance_7 : decode cX6_greatestDistance 7 = .ok (.aload_n 0, 1) := by decide +kernel
theorem dX6_greatestDistance_8 : decode cX6_greatestDistance 8 = .ok (.iload_n 1, 1) := by decide +kernel
theorem dX6_greatestDistance_9 : decode cX6_greatestDistance 9 = .ok (.invokevirtual 122, 3) := by decide +kernel
theorem dX6_greatestDistance_12 : decode cX6_greatestDistance 12 = .ok (.ifCond .le 5, 3) := by decide +kernel
theorem dX6_greatestDistance_15 : decode cX6_greatestDistance 15 = .ok (.iload_n 1, 1) := by decide +kernel
theorem dX6_greatestDistance_16 : decode cX6_greatestDistance 16 = .ok (.ireturn, 1) := by decide +kernel
theorem dX6_greatestDistance_17 : decode cX6_greatestDistance 17 = .ok (.iinc 1 (-1), 3) := by decide +kernel
theorem dX6_greatestDistance_20 : decode cX6_greatestDistance 20 = .ok (.goto (-17), 3) := by decide +kernel
theorem dX6_greatestDistance_23 : decode cX6_greatestDistance 23 = .ok (.bipush (-7), 2) := by decide +kernel
theorem dX6_greatestDistance_25 : decode cX6_greatestDistance 25 = .ok (.ireturn, 1) := by decide +kernel
set_option maxRecDepth 20000 in
theorem ggX6_trueFragment_X6_wordOf : GoodIn wsX6_trueFragment wsX6_wordOf := goodIn_r _ [6, 7, 8, 5, 9] (by decide +kernel) (by decide +kernel)
set_option maxRecDepth 20000 in
theorem gX6_trueFragment_X6_wordOf : GoodIn wsX6_trueFragment (va_wsS RX6 74 yX6_wordOf wsX6_wordOf) := goodIn_app (goodIn_of _ (by decide +kernel)) ggX6_trueFragment_X6_wordOf
set_option maxRecDepth 20000 in
theorem ggX6_trueFragment_X6_fragmentOf : GoodIn wsX6_trueFragment wsX6_fragmentOf := goodIn_r _ [12] (by decide +kernel) (by decide +kernel)
set_option maxRecDepth 20000 in
theorem gX6_trueFragment_X6_fragmentOf : GoodIn wsX6_trueFragment (va_wsS RX6 77 yX6_fragmentOf wsX6_fragmentOf) := goodIn_app (goodIn_of _ (by decide +kernel)) ggX6_trueFragment_X6_fragmentOf
theorem dX6_trueFragment_0 : decode cX6_trueFragment 0 = .ok (.aload_n 0, 1) := by decide +kernel
theorem dX6_trueFragment_1 : decode cX6_trueFragment 1 = .ok (.getfield 13, 3) := by decide +kernel
theorem dX6_trueFragment_4 : decode cX6_trueFragment 4 = .ok (.iload_n 1, 1) := by decide +kernel
theorem dX6_trueFragment_5 : decode cX6_trueFragment 5 = .ok (.iaload, 1) := by decide +kernel
theorem dX6_trueFragment_6 : decode cX6_trueFragment 6 = .ok (.invokestatic 74, 3) := by decide +kernel
theorem dX6_trueFragment_9 : decode cX6_trueFragment 9 = .ok (.iload_n 2, 1) := by decide +kernel
theorem dX6_trueFragment_10 : decode cX6_trueFragment 10 = .ok (.invokestatic 77, 3) := by decide +kernel
theorem dX6_trueFragment_13 : decode cX6_trueFragment 13 = .ok (.istore_n 3, 1) := by decide +kernel
theorem dX6_trueFragment_14 : decode cX6_trueFragment 14 = .ok (.aload_n 0, 1) := by decide +kernel
theorem dX6_trueFragment_15 : decode cX6_trueFragment 15 = .ok (.getfield 7, 3) := by decide +kernel
theorem dX6_trueFragment_18 : decode cX6_trueFragment 18 = .ok (.iload_n 1, 1) := by decide +kernel
theorem dX6_trueFragment_19 : decode cX6_trueFragment 19 = .ok (.iaload, 1) := by decide +kernel
theorem dX6_trueFragment_20 : decode cX6_trueFragment 20 = .ok (.bipush (-7), 2) := by decide +kernel
theorem dX6_trueFragment_22 : decode cX6_trueFragment 22 = .ok (.if_icmp .ne 7, 3) := by decide +kernel
theorem dX6_trueFragment_25 : decode cX6_trueFragment 25 = .ok (.iload_n 3, 1) := by decide +kernel
theorem dX6_trueFragment_26 : decode cX6_trueFragment 26 = .ok (.goto 23, 3) := by decide +kernel
theorem dX6_trueFragment_29 : decode cX6_trueFragment 29 = .ok (.iload_n 3, 1) := by decide +kernel
theorem dX6_trueFragment_30 : decode cX6_trueFragment 30 = .ok (.aload_n 0, 1) := by decide +kernel
theorem dX6_trueFragment_31 : decode cX6_trueFragment 31 = .ok (.getfield 13, 3) := by decide +kernel
theorem dX6_trueFragment_34 : decode cX6_trueFragment 34 = .ok (.aload_n 0, 1) := by decide +kernel
theorem dX6_trueFragment_35 : decode cX6_trueFragment 35 = .ok (.getfield 7, 3) := by decide +kernel
theorem dX6_trueFragment_38 : decode cX6_trueFragment 38 = .ok (.iload_n 1, 1) := by decide +kernel
theorem dX6_trueFragment_39 : decode cX6_trueFragment 39 = .ok (.iaload, 1) := by decide +kernel
theorem dX6_trueFragment_40 : decode cX6_trueFragment 40 = .ok (.iaload, 1) := by decide +kernel
theorem dX6_trueFragment_41 : decode cX6_trueFragment 41 = .ok (.invokestatic 74, 3) := by decide +kernel
theorem dX6_trueFragment_44 : decode cX6_trueFragment 44 = .ok (.iload_n 2, 1) := by decide +kernel
theorem dX6_trueFragment_45 : decode cX6_trueFragment 45 = .ok (.invokestatic 77, 3) := by decide +kernel
theorem dX6_trueFragment_48 : decode cX6_trueFragment 48 = .ok (.ixor, 1) := by decide +kernel
theorem dX6_trueFragment_49 : decode cX6_trueFragment 49 = .ok (.ireturn, 1) := by decide +kernel
set_option maxRecDepth 20000 in
theorem ggX6_isPathComplete_X6_isRouter : GoodIn wsX6_isPathComplete wsX6_isRouter := goodIn_r _ [8, 9, 10, 11, 7, 12, 30, 31, 32, 33, 34, 35, 36, 37, 38, 39, 40, 41, 42, 43, 44, 45, 46, 47, 48, 49, 50, 51, 52, 53] (by decide +kernel) (by decide +kernel)
set_option maxRecDepth 20000 in
theorem gX6_isPathComplete_X6_isRouter : GoodIn wsX6_isPathComplete (wsV RX6 60 RX6 yX6_isRouter wsX6_isRouter) := goodIn_app (goodIn_of _ (by decide +kernel)) ggX6_isPathComplete_X6_isRouter
set_option maxRecDepth 20000 in
theorem ggX6_isPathComplete_X6_trueFragment : GoodIn wsX6_isPathComplete wsX6_trueFragment := goodIn_r _ [16, 17, 3, 18, 19, 7, 20, 21, 22, 23, 24, 25, 26, 30, 31, 32, 33, 34, 35, 36, 37, 38, 39, 40, 41, 42, 43, 44, 45, 46, 47, 48, 49, 50, 51, 52, 53] (by decide +kernel) (by decide +kernel)
set_option maxRecDepth 20000 in
theorem gX6_isPathComplete_X6_trueFragment : GoodIn wsX6_isPathComplete (wsV RX6 128 RX6 yX6_trueFragment wsX6_trueFragment) := goodIn_app (goodIn_of _ (by decide +kernel)) ggX6_isPathComplete_X6_trueFragment
set_option maxRecDepth 20000 in
theorem ggX6_isPathComplete_X6_placeOf : GoodIn wsX6_isPathComplete wsX6_placeOf := goodIn_r _ [29] (by decide +kernel) (by decide +kernel)
set_option maxRecDepth 20000 in
theorem gX6_isPathComplete_X6_placeOf : GoodIn wsX6_isPathComplete (va_wsS RX6 109 yX6_placeOf wsX6_placeOf) := goodIn_app (goodIn_of _ (by decide +kernel)) ggX6_isPathComplete_X6_placeOf
theorem dX6_isPathComplete_0 : decode cX6_isPathComplete 0 = .ok (.aload_n 0, 1) := by decide +kernel
theorem dX6_isPathComplete_1 : decode cX6_isPathComplete 1 = .ok (.iload_n 1, 1) := by decide +kernel
theorem dX6_isPathComplete_2 : decode cX6_isPathComplete 2 = .ok (.invokevirtual 60, 3) := by decide +kernel
theorem dX6_isPathComplete_5 : decode cX6_isPathComplete 5 = .ok (.ifCond .ne 5, 3) := by decide +kernel
theorem dX6_isPathComplete_8 : decode cX6_isPathComplete 8 = .ok (.iconst (-1), 1) := by decide +kernel
theorem dX6_isPathComplete_9 : decode cX6_isPathComplete 9 = .ok (.ireturn, 1) := by decide +kernel
theorem dX6_isPathComplete_10 : decode cX6_isPathComplete 10 = .ok (.iload_n 1, 1) := by decide +kernel
theorem dX6_isPathComplete_11 : decode cX6_isPathComplete 11 = .ok (.istore_n 2, 1) := by decide +kernel
theorem dX6_isPathComplete_12 : decode cX6_isPathComplete 12 = .ok (.iload_n 2, 1) := by decide +kernel
theorem dX6_isPathComplete_13 : decode cX6_isPathComplete 13 = .ok (.bipush (-7), 2) := by decide +kernel
theorem dX6_isPathComplete_15 : decode cX6_isPathComplete 15 = .ok (.if_icmp .eq 52, 3) := by decide +kernel
theorem dX6_isPathComplete_18 : decode cX6_isPathComplete 18 = .ok (.iconst 0, 1) := by decide +kernel
theorem dX6_isPathComplete_19 : decode cX6_isPathComplete 19 = .ok (.istore_n 3, 1) := by decide +kernel
theorem dX6_isPathComplete_20 : decode cX6_isPathComplete 20 = .ok (.iload_n 3, 1) := by decide +kernel
theorem dX6_isPathComplete_21 : decode cX6_isPathComplete 21 = .ok (.iconst 4, 1) := by decide +kernel
theorem dX6_isPathComplete_22 : decode cX6_isPathComplete 22 = .ok (.if_icmp .ge 35, 3) := by decide +kernel
theorem dX6_isPathComplete_25 : decode cX6_isPathComplete 25 = .ok (.aload_n 0, 1) := by decide +kernel
theorem dX6_isPathComplete_26 : decode cX6_isPathComplete 26 = .ok (.getfield 19, 3) := by decide +kernel
theorem dX6_isPathComplete_29 : decode cX6_isPathComplete 29 = .ok (.aload_n 0, 1) := by decide +kernel
theorem dX6_isPathComplete_30 : decode cX6_isPathComplete 30 = .ok (.getfield 16, 3) := by decide +kernel
theorem dX6_isPathComplete_33 : decode cX6_isPathComplete 33 = .ok (.iload_n 2, 1) := by decide +kernel
theorem dX6_isPathComplete_34 : decode cX6_isPathComplete 34 = .ok (.iaload, 1) := by decide +kernel
theorem dX6_isPathComplete_35 : decode cX6_isPathComplete 35 = .ok (.iload_n 3, 1) := by decide +kernel
theorem dX6_isPathComplete_36 : decode cX6_isPathComplete 36 = .ok (.aload_n 0, 1) := by decide +kernel
theorem dX6_isPathComplete_37 : decode cX6_isPathComplete 37 = .ok (.iload_n 2, 1) := by decide +kernel
theorem dX6_isPathComplete_38 : decode cX6_isPathComplete 38 = .ok (.iload_n 3, 1) := by decide +kernel
theorem dX6_isPathComplete_39 : decode cX6_isPathComplete 39 = .ok (.invokevirtual 128, 3) := by decide +kernel
theorem dX6_isPathComplete_42 : decode cX6_isPathComplete 42 = .ok (.invokestatic 109, 3) := by decide +kernel
theorem dX6_isPathComplete_45 : decode cX6_isPathComplete 45 = .ok (.iaload, 1) := by decide +kernel
theorem dX6_isPathComplete_46 : decode cX6_isPathComplete 46 = .ok (.ifCond .ne 5, 3) := by decide +kernel
theorem dX6_isPathComplete_49 : decode cX6_isPathComplete 49 = .ok (.iconst 0, 1) := by decide +kernel
theorem dX6_isPathComplete_50 : decode cX6_isPathComplete 50 = .ok (.ireturn, 1) := by decide +kernel
theorem dX6_isPathComplete_51 : decode cX6_isPathComplete 51 = .ok (.iinc 3 1, 3) := by decide +kernel
theorem dX6_isPathComplete_54 : decode cX6_isPathComplete 54 = .ok (.goto (-34), 3) := by decide +kernel
theorem dX6_isPathComplete_57 : decode cX6_isPathComplete 57 = .ok (.aload_n 0, 1) := by decide +kernel
theorem dX6_isPathComplete_58 : decode cX6_isPathComplete 58 = .ok (.getfield 7, 3) := by decide +kernel
theorem dX6_isPathComplete_61 : decode cX6_isPathComplete 61 = .ok (.iload_n 2, 1) := by decide +kernel
theorem dX6_isPathComplete_62 : decode cX6_isPathComplete 62 = .ok (.iaload, 1) := by decide +kernel
theorem dX6_isPathComplete_63 : decode cX6_isPathComplete 63 = .ok (.istore_n 2, 1) := by decide +kernel
theorem dX6_isPathComplete_64 : decode cX6_isPathComplete 64 = .ok (.goto (-52), 3) := by decide +kernel
theorem dX6_isPathComplete_67 : decode cX6_isPathComplete 67 = .ok (.iconst 1, 1) := by decide +kernel
theorem dX6_isPathComplete_68 : decode cX6_isPathComplete 68 = .ok (.ireturn, 1) := by decide +kernel
theorem dX6_startsTrial_0 : decode cX6_startsTrial 0 = .ok (.iconst 0, 1) := by decide +kernel
theorem dX6_startsTrial_1 : decode cX6_startsTrial 1 = .ok (.istore_n 2, 1) := by decide +kernel
theorem dX6_startsTrial_2 : decode cX6_startsTrial 2 = .ok (.iload_n 2, 1) := by decide +kernel
theorem dX6_startsTrial_3 : decode cX6_startsTrial 3 = .ok (.bipush 20, 2) := by decide +kernel
theorem dX6_startsTrial_5 : decode cX6_startsTrial 5 = .ok (.if_icmp .ge 31, 3) := by decide +kernel
theorem dX6_startsTrial_8 : decode cX6_startsTrial 8 = .ok (.aload_n 0, 1) := by decide +kernel
theorem dX6_startsTrial_9 : decode cX6_startsTrial 9 = .ok (.getfield 22, 3) := by decide +kernel
theorem dX6_startsTrial_12 : decode cX6_startsTrial 12 = .ok (.iload_n 2, 1) := by decide +kernel
theorem dX6_startsTrial_13 : decode cX6_startsTrial 13 = .ok (.iload_n 2, 1) := by decide +kernel
theorem dX6_startsTrial_14 : decode cX6_startsTrial 14 = .ok (.aload_n 0, 1) := by decide +kernel
theorem dX6_startsTrial_15 : decode cX6_startsTrial 15 = .ok (.getfield 16, 3) := by decide +kernel
theorem dX6_startsTrial_18 : decode cX6_startsTrial 18 = .ok (.iload_n 1, 1) := by decide +kernel
theorem dX6_startsTrial_19 : decode cX6_startsTrial 19 = .ok (.iaload, 1) := by decide +kernel
theorem dX6_startsTrial_20 : decode cX6_startsTrial 20 = .ok (.if_icmp .gt 8, 3) := by decide +kernel
theorem dX6_startsTrial_23 : decode cX6_startsTrial 23 = .ok (.bipush 15, 2) := by decide +kernel
theorem dX6_startsTrial_25 : decode cX6_startsTrial 25 = .ok (.goto 4, 3) := by decide +kernel
theorem dX6_startsTrial_28 : decode cX6_startsTrial 28 = .ok (.iconst 0, 1) := by decide +kernel
theorem dX6_startsTrial_29 : decode cX6_startsTrial 29 = .ok (.iastore, 1) := by decide +kernel
theorem dX6_startsTrial_30 : decode cX6_startsTrial 30 = .ok (.iinc 2 1, 3) := by decide +kernel
theorem dX6_startsTrial_33 : decode cX6_startsTrial 33 = .ok (.goto (-31), 3) := by decide +kernel
theorem dX6_startsTrial_36 : decode cX6_startsTrial 36 = .ok (.return_, 1) := by decide +kernel
theorem dX6_isTrialComplete_0 : decode cX6_isTrialComplete 0 = .ok (.iconst 0, 1) := by decide +kernel
theorem dX6_isTrialComplete_1 : decode cX6_isTrialComplete 1 = .ok (.istore_n 1, 1) := by decide +kernel
theorem dX6_isTrialComplete_2 : decode cX6_isTrialComplete 2 = .ok (.iload_n 1, 1) := by decide +kernel
theorem dX6_isTrialComplete_3 : decode cX6_isTrialComplete 3 = .ok (.bipush 20, 2) := by decide +kernel
theorem dX6_isTrialComplete_5 : decode cX6_isTrialComplete 5 = .ok (.if_icmp .ge 20, 3) := by decide +kernel
theorem dX6_isTrialComplete_8 : decode cX6_isTrialComplete 8 = .ok (.aload_n 0, 1) := by decide +kernel
theorem dX6_isTrialComplete_9 : decode cX6_isTrialComplete 9 = .ok (.getfield 22, 3) := by decide +kernel
theorem dX6_isTrialComplete_12 : decode cX6_isTrialComplete 12 = .ok (.iload_n 1, 1) := by decide +kernel
theorem dX6_isTrialComplete_13 : decode cX6_isTrialComplete 13 = .ok (.iaload, 1) := by decide +kernel
theorem dX6_isTrialComplete_14 : decode cX6_isTrialComplete 14 = .ok (.ifCond .eq 5, 3) := by decide +kernel
theorem dX6_isTrialComplete_17 : decode cX6_isTrialComplete 17 = .ok (.iconst 0, 1) := by decide +kernel
theorem dX6_isTrialComplete_18 : decode cX6_isTrialComplete 18 = .ok (.ireturn, 1) := by decide +kernel
theorem dX6_isTrialComplete_19 : decode cX6_isTrialComplete 19 = .ok (.iinc 1 1, 3) := by decide +kernel
theorem dX6_isTrialComplete_22 : decode cX6_isTrialComplete 22 = .ok (.goto (-20), 3) := by decide +kernel
theorem dX6_isTrialComplete_25 : decode cX6_isTrialComplete 25 = .ok (.iconst 1, 1) := by decide +kernel
theorem dX6_isTrialComplete_26 : decode cX6_isTrialComplete 26 = .ok (.ireturn, 1) := by decide +kernel
set_option maxRecDepth 20000 in
theorem ggX6_packetsNeeded_X6_isRouter : GoodIn wsX6_packetsNeeded wsX6_isRouter := goodIn_r _ [9, 10, 11, 12, 8, 13, 50, 51, 52, 53, 54, 55, 56, 57, 58, 59, 60, 61, 62, 63, 64, 65, 66, 67, 68, 69, 70, 71, 72, 73] (by decide +kernel) (by decide +kernel)
set_option maxRecDepth 20000 in
theorem gX6_packetsNeeded_X6_isRouter : GoodIn wsX6_packetsNeeded (wsV RX6 60 RX6 yX6_isRouter wsX6_isRouter) := goodIn_app (goodIn_of _ (by decide +kernel)) ggX6_packetsNeeded_X6_isRouter
set_option maxRecDepth 20000 in
theorem ggX6_packetsNeeded_X6_within : GoodIn wsX6_packetsNeeded wsX6_within := goodIn_r _ [13] (by decide +kernel) (by decide +kernel)
set_option maxRecDepth 20000 in
theorem gX6_packetsNeeded_X6_within : GoodIn wsX6_packetsNeeded (va_wsS RX6 56 yX6_within wsX6_within) := goodIn_app (goodIn_of _ (by decide +kernel)) ggX6_packetsNeeded_X6_within
set_option maxRecDepth 20000 in
theorem ggX6_packetsNeeded_X6_startsTrial : GoodIn wsX6_packetsNeeded wsX6_startsTrial := goodIn_r _ [17, 3, 18, 50, 51, 52, 53, 54, 55, 56, 57, 58, 59, 60, 61, 62, 63, 64, 65, 66, 67, 68, 69, 70, 71, 72, 73] (by decide +kernel) (by decide +kernel)
set_option maxRecDepth 20000 in
theorem gX6_packetsNeeded_X6_startsTrial : GoodIn wsX6_packetsNeeded (wsV RX6 131 RX6 yX6_startsTrial wsX6_startsTrial) := goodIn_app (goodIn_of _ (by decide +kernel)) ggX6_packetsNeeded_X6_startsTrial
set_option maxRecDepth 20000 in
theorem ggX6_packetsNeeded_X6_isTrialComplete : GoodIn wsX6_packetsNeeded wsX6_isTrialComplete := goodIn_r _ [22, 3, 50, 51, 52, 53, 54, 55, 56, 57, 58, 59, 60, 61, 62, 63, 64, 65, 66, 67, 68, 69, 70, 71, 72, 73] (by decide +kernel) (by decide +kernel)
set_option maxRecDepth 20000 in
theorem gX6_packetsNeeded_X6_isTrialComplete : GoodIn wsX6_packetsNeeded (wsV RX6 134 RX6 yX6_isTrialComplete wsX6_isTrialComplete) := goodIn_app (goodIn_of _ (by decide +kernel)) ggX6_packetsNeeded_X6_isTrialComplete
set_option maxRecDepth 20000 in
theorem ggX6_packetsNeeded_X6_travels : GoodIn wsX6_packetsNeeded wsX6_travels := goodIn_r _ [26, 27, 28, 29, 30, 8, 31, 32, 33, 4, 2, 34, 35, 36, 37, 38, 39, 40, 41, 42, 43, 44, 45, 1, 46, 47, 48, 49, 50, 51, 52, 53, 54, 55, 56, 57, 58, 59, 60, 61, 62, 63, 64, 65, 66, 67, 68, 69, 70, 71, 72, 73] (by decide +kernel) (by decide +kernel)
set_option maxRecDepth 20000 in
theorem gX6_packetsNeeded_X6_travels : GoodIn wsX6_packetsNeeded (wsV RX6 113 RX6 yX6_travels wsX6_travels) := goodIn_app (goodIn_of _ (by decide +kernel)) ggX6_packetsNeeded_X6_travels
theorem dX6_packetsNeeded_0 : decode cX6_packetsNeeded 0 = .ok (.aload_n 0, 1) := by decide +kernel
theorem dX6_packetsNeeded_1 : decode cX6_packetsNeeded 1 = .ok (.iload_n 1, 1) := by decide +kernel
theorem dX6_packetsNeeded_2 : decode cX6_packetsNeeded 2 = .ok (.invokevirtual 60, 3) := by decide +kernel
theorem dX6_packetsNeeded_5 : decode cX6_packetsNeeded 5 = .ok (.ifCond .ne 5, 3) := by decide +kernel
theorem dX6_packetsNeeded_8 : decode cX6_packetsNeeded 8 = .ok (.iconst (-1), 1) := by decide +kernel
theorem dX6_packetsNeeded_9 : decode cX6_packetsNeeded 9 = .ok (.ireturn, 1) := by decide +kernel
theorem dX6_packetsNeeded_10 : decode cX6_packetsNeeded 10 = .ok (.iload_n 2, 1) := by decide +kernel
theorem dX6_packetsNeeded_11 : decode cX6_packetsNeeded 11 = .ok (.iconst 1, 1) := by decide +kernel
theorem dX6_packetsNeeded_12 : decode cX6_packetsNeeded 12 = .ok (.sipush 2000, 3) := by decide +kernel
theorem dX6_packetsNeeded_15 : decode cX6_packetsNeeded 15 = .ok (.invokestatic 56, 3) := by decide +kernel
theorem dX6_packetsNeeded_18 : decode cX6_packetsNeeded 18 = .ok (.ifCond .ne 6, 3) := by decide +kernel
theorem dX6_packetsNeeded_21 : decode cX6_packetsNeeded 21 = .ok (.bipush (-2), 2) := by decide +kernel
theorem dX6_packetsNeeded_23 : decode cX6_packetsNeeded 23 = .ok (.ireturn, 1) := by decide +kernel
theorem dX6_packetsNeeded_24 : decode cX6_packetsNeeded 24 = .ok (.aload_n 0, 1) := by decide +kernel
theorem dX6_packetsNeeded_25 : decode cX6_packetsNeeded 25 = .ok (.getfield 50, 3) := by decide +kernel
theorem dX6_packetsNeeded_28 : decode cX6_packetsNeeded 28 = .ok (.istore_n 3, 1) := by decide +kernel
theorem dX6_packetsNeeded_29 : decode cX6_packetsNeeded 29 = .ok (.iconst 0, 1) := by decide +kernel
theorem dX6_packetsNeeded_30 : decode cX6_packetsNeeded 30 = .ok (.istore 4, 2) := by decide +kernel
theorem dX6_packetsNeeded_32 : decode cX6_packetsNeeded 32 = .ok (.aload_n 0, 1) := by decide +kernel
theorem dX6_packetsNeeded_33 : decode cX6_packetsNeeded 33 = .ok (.iload_n 1, 1) := by decide +kernel
theorem dX6_packetsNeeded_34 : decode cX6_packetsNeeded 34 = .ok (.invokevirtual 131, 3) := by decide +kernel
theorem dX6_packetsNeeded_37 : decode cX6_packetsNeeded 37 = .ok (.iload 4, 2) := by decide +kernel
theorem dX6_packetsNeeded_39 : decode cX6_packetsNeeded 39 = .ok (.iload_n 2, 1) := by decide +kernel
theorem dX6_packetsNeeded_40 : decode cX6_packetsNeeded 40 = .ok (.if_icmp .ge 56, 3) := by decide +kernel
theorem dX6_packetsNeeded_43 : decode cX6_packetsNeeded 43 = .ok (.aload_n 0, 1) := by decide +kernel
theorem dX6_packetsNeeded_44 : decode cX6_packetsNeeded 44 = .ok (.invokevirtual 134, 3) := by decide +kernel
theorem dX6_packetsNeeded_47 : decode cX6_packetsNeeded 47 = .ok (.ifCond .ne 49, 3) := by decide +kernel
theorem dX6_packetsNeeded_50 : decode cX6_packetsNeeded 50 = .ok (.aload_n 0, 1) := by decide +kernel
theorem dX6_packetsNeeded_51 : decode cX6_packetsNeeded 51 = .ok (.bipush (-7), 2) := by decide +kernel
theorem dX6_packetsNeeded_53 : decode cX6_packetsNeeded 53 = .ok (.putfield 89, 3) := by decide +kernel
theorem dX6_packetsNeeded_56 : decode cX6_packetsNeeded 56 = .ok (.aload_n 0, 1) := by decide +kernel
theorem dX6_packetsNeeded_57 : decode cX6_packetsNeeded 57 = .ok (.iload_n 1, 1) := by decide +kernel
theorem dX6_packetsNeeded_58 : decode cX6_packetsNeeded 58 = .ok (.invokevirtual 113, 3) := by decide +kernel
theorem dX6_packetsNeeded_61 : decode cX6_packetsNeeded 61 = .ok (.iinc 4 1, 3) := by decide +kernel
theorem dX6_packetsNeeded_64 : decode cX6_packetsNeeded 64 = .ok (.aload_n 0, 1) := by decide +kernel
theorem dX6_packetsNeeded_65 : decode cX6_packetsNeeded 65 = .ok (.getfield 89, 3) := by decide +kernel
theorem dX6_packetsNeeded_68 : decode cX6_packetsNeeded 68 = .ok (.bipush (-7), 2) := by decide +kernel
theorem dX6_packetsNeeded_70 : decode cX6_packetsNeeded 70 = .ok (.if_icmp .eq (-33), 3) := by decide +kernel
theorem dX6_packetsNeeded_73 : decode cX6_packetsNeeded 73 = .ok (.aload_n 0, 1) := by decide +kernel
theorem dX6_packetsNeeded_74 : decode cX6_packetsNeeded 74 = .ok (.getfield 22, 3) := by decide +kernel
theorem dX6_packetsNeeded_77 : decode cX6_packetsNeeded 77 = .ok (.aload_n 0, 1) := by decide +kernel
theorem dX6_packetsNeeded_78 : decode cX6_packetsNeeded 78 = .ok (.getfield 89, 3) := by decide +kernel
theorem dX6_packetsNeeded_81 : decode cX6_packetsNeeded 81 = .ok (.dup2, 1) := by decide +kernel
theorem dX6_packetsNeeded_82 : decode cX6_packetsNeeded 82 = .ok (.iaload, 1) := by decide +kernel
theorem dX6_packetsNeeded_83 : decode cX6_packetsNeeded 83 = .ok (.iconst 1, 1) := by decide +kernel
theorem dX6_packetsNeeded_84 : decode cX6_packetsNeeded 84 = .ok (.aload_n 0, 1) := by decide +kernel
theorem dX6_packetsNeeded_85 : decode cX6_packetsNeeded 85 = .ok (.getfield 86, 3) := by decide +kernel
theorem dX6_packetsNeeded_88 : decode cX6_packetsNeeded 88 = .ok (.ishl, 1) := by decide +kernel
theorem dX6_packetsNeeded_89 : decode cX6_packetsNeeded 89 = .ok (.iconst (-1), 1) := by decide +kernel
theorem dX6_packetsNeeded_90 : decode cX6_packetsNeeded 90 = .ok (.ixor, 1) := by decide +kernel
theorem dX6_packetsNeeded_91 : decode cX6_packetsNeeded 91 = .ok (.iand, 1) := by decide +kernel
theorem dX6_packetsNeeded_92 : decode cX6_packetsNeeded 92 = .ok (.iastore, 1) := by decide +kernel
theorem dX6_packetsNeeded_93 : decode cX6_packetsNeeded 93 = .ok (.goto (-56), 3) := by decide +kernel
theorem dX6_packetsNeeded_96 : decode cX6_packetsNeeded 96 = .ok (.aload_n 0, 1) := by decide +kernel
theorem dX6_packetsNeeded_97 : decode cX6_packetsNeeded 97 = .ok (.iload_n 3, 1) := by decide +kernel
theorem dX6_packetsNeeded_98 : decode cX6_packetsNeeded 98 = .ok (.putfield 50, 3) := by decide +kernel
theorem dX6_packetsNeeded_101 : decode cX6_packetsNeeded 101 = .ok (.aload_n 0, 1) := by decide +kernel
theorem dX6_packetsNeeded_102 : decode cX6_packetsNeeded 102 = .ok (.invokevirtual 134, 3) := by decide +kernel
theorem dX6_packetsNeeded_105 : decode cX6_packetsNeeded 105 = .ok (.ifCond .eq 8, 3) := by decide +kernel
theorem dX6_packetsNeeded_108 : decode cX6_packetsNeeded 108 = .ok (.iload 4, 2) := by decide +kernel
theorem dX6_packetsNeeded_110 : decode cX6_packetsNeeded 110 = .ok (.goto 5, 3) := by decide +kernel
theorem dX6_packetsNeeded_113 : decode cX6_packetsNeeded 113 = .ok (.bipush (-7), 2) := by decide +kernel
theorem dX6_packetsNeeded_115 : decode cX6_packetsNeeded 115 = .ok (.ireturn, 1) := by decide +kernel
set_option maxRecDepth 20000 in
theorem ggX6_combinations_X6_different : GoodIn wsX6_combinations wsX6_different := goodIn_r _ [5, 6, 7, 8, 4, 9, 10, 11, 12, 13, 14, 15, 16, 17, 18, 19, 20, 21, 22, 23, 24, 25, 26, 27, 28, 29, 30, 31, 32, 33] (by decide +kernel) (by decide +kernel)
set_option maxRecDepth 20000 in
theorem gX6_combinations_X6_different : GoodIn wsX6_combinations (wsV RX6 125 RX6 yX6_different wsX6_different) := goodIn_app (goodIn_of _ (by decide +kernel)) ggX6_combinations_X6_different
theorem dX6_combinations_0 : decode cX6_combinations 0 = .ok (.iconst 1, 1) := by decide +kernel
theorem dX6_combinations_1 : decode cX6_combinations 1 = .ok (.istore_n 2, 1) := by decide +kernel
theorem dX6_combinations_2 : decode cX6_combinations 2 = .ok (.iconst 0, 1) := by decide +kernel
theorem dX6_combinations_3 : decode cX6_combinations 3 = .ok (.istore_n 3, 1) := by decide +kernel
theorem dX6_combinations_4 : decode cX6_combinations 4 = .ok (.iload_n 3, 1) := by decide +kernel
theorem dX6_combinations_5 : decode cX6_combinations 5 = .ok (.iconst 4, 1) := by decide +kernel
theorem dX6_combinations_6 : decode cX6_combinations 6 = .ok (.if_icmp .ge 18, 3) := by decide +kernel
theorem dX6_combinations_9 : decode cX6_combinations 9 = .ok (.iload_n 2, 1) := by decide +kernel
theorem dX6_combinations_10 : decode cX6_combinations 10 = .ok (.aload_n 0, 1) := by decide +kernel
theorem dX6_combinations_11 : decode cX6_combinations 11 = .ok (.iload_n 1, 1) := by decide +kernel
theorem dX6_combinations_12 : decode cX6_combinations 12 = .ok (.iload_n 3, 1) := by decide +kernel
theorem dX6_combinations_13 : decode cX6_combinations 13 = .ok (.invokevirtual 125, 3) := by decide +kernel
theorem dX6_combinations_16 : decode cX6_combinations 16 = .ok (.imul, 1) := by decide +kernel
theorem dX6_combinations_17 : decode cX6_combinations 17 = .ok (.istore_n 2, 1) := by decide +kernel
theorem dX6_combinations_18 : decode cX6_combinations 18 = .ok (.iinc 3 1, 3) := by decide +kernel
theorem dX6_combinations_21 : decode cX6_combinations 21 = .ok (.goto (-17), 3) := by decide +kernel
theorem dX6_combinations_24 : decode cX6_combinations 24 = .ok (.iload_n 2, 1) := by decide +kernel
theorem dX6_combinations_25 : decode cX6_combinations 25 = .ok (.ireturn, 1) := by decide +kernel
set_option maxRecDepth 20000 in
theorem ggX6_fragmentAt_X6_placeOf : GoodIn wsX6_fragmentAt wsX6_placeOf := goodIn_r _ [5] (by decide +kernel) (by decide +kernel)
set_option maxRecDepth 20000 in
theorem gX6_fragmentAt_X6_placeOf : GoodIn wsX6_fragmentAt (va_wsS RX6 109 yX6_placeOf wsX6_placeOf) := goodIn_app (goodIn_of _ (by decide +kernel)) ggX6_fragmentAt_X6_placeOf
theorem dX6_fragmentAt_0 : decode cX6_fragmentAt 0 = .ok (.iload_n 3, 1) := by decide +kernel
theorem dX6_fragmentAt_1 : decode cX6_fragmentAt 1 = .ok (.istore 4, 2) := by decide +kernel
theorem dX6_fragmentAt_3 : decode cX6_fragmentAt 3 = .ok (.iconst 0, 1) := by decide +kernel
theorem dX6_fragmentAt_4 : decode cX6_fragmentAt 4 = .ok (.istore 5, 2) := by decide +kernel
theorem dX6_fragmentAt_6 : decode cX6_fragmentAt 6 = .ok (.iload 5, 2) := by decide +kernel
theorem dX6_fragmentAt_8 : decode cX6_fragmentAt 8 = .ok (.bipush 32, 2) := by decide +kernel
theorem dX6_fragmentAt_10 : decode cX6_fragmentAt 10 = .ok (.if_icmp .ge 35, 3) := by decide +kernel
theorem dX6_fragmentAt_13 : decode cX6_fragmentAt 13 = .ok (.aload_n 0, 1) := by decide +kernel
theorem dX6_fragmentAt_14 : decode cX6_fragmentAt 14 = .ok (.getfield 19, 3) := by decide +kernel
theorem dX6_fragmentAt_17 : decode cX6_fragmentAt 17 = .ok (.iload_n 1, 1) := by decide +kernel
theorem dX6_fragmentAt_18 : decode cX6_fragmentAt 18 = .ok (.iload_n 2, 1) := by decide +kernel
theorem dX6_fragmentAt_19 : decode cX6_fragmentAt 19 = .ok (.iload 5, 2) := by decide +kernel
theorem dX6_fragmentAt_21 : decode cX6_fragmentAt 21 = .ok (.invokestatic 109, 3) := by decide +kernel
theorem dX6_fragmentAt_24 : decode cX6_fragmentAt 24 = .ok (.iaload, 1) := by decide +kernel
theorem dX6_fragmentAt_25 : decode cX6_fragmentAt 25 = .ok (.ifCond .le 14, 3) := by decide +kernel
theorem dX6_fragmentAt_28 : decode cX6_fragmentAt 28 = .ok (.iload 4, 2) := by decide +kernel
theorem dX6_fragmentAt_30 : decode cX6_fragmentAt 30 = .ok (.ifCond .ne 6, 3) := by decide +kernel
theorem dX6_fragmentAt_33 : decode cX6_fragmentAt 33 = .ok (.iload 5, 2) := by decide +kernel
theorem dX6_fragmentAt_35 : decode cX6_fragmentAt 35 = .ok (.ireturn, 1) := by decide +kernel
theorem dX6_fragmentAt_36 : decode cX6_fragmentAt 36 = .ok (.iinc 4 (-1), 3) := by decide +kernel
theorem dX6_fragmentAt_39 : decode cX6_fragmentAt 39 = .ok (.iinc 5 1, 3) := by decide +kernel
theorem dX6_fragmentAt_42 : decode cX6_fragmentAt 42 = .ok (.goto (-36), 3) := by decide +kernel
theorem dX6_fragmentAt_45 : decode cX6_fragmentAt 45 = .ok (.bipush (-7), 2) := by decide +kernel
theorem dX6_fragmentAt_47 : decode cX6_fragmentAt 47 = .ok (.ireturn, 1) := by decide +kernel
set_option maxRecDepth 20000 in
theorem ggX6_findWords_X6_combinations : GoodIn wsX6_findWords wsX6_combinations := goodIn_r _ [7, 8, 9, 10, 6, 11, 12, 13, 14, 15, 20, 21, 22, 23, 24, 25, 26, 27, 28, 29, 30, 31, 32, 33, 34, 35, 36, 37, 38, 39, 40, 41, 42, 43] (by decide +kernel) (by decide +kernel)
set_option maxRecDepth 20000 in
theorem gX6_findWords_X6_combinations : GoodIn wsX6_findWords (wsV RX6 138 RX6 yX6_combinations wsX6_combinations) := goodIn_app (goodIn_of _ (by decide +kernel)) ggX6_findWords_X6_combinations
set_option maxRecDepth 20000 in
theorem ggX6_findWords_X6_different : GoodIn wsX6_findWords wsX6_different := goodIn_r _ [11, 12, 13, 14, 6, 15, 20, 21, 22, 23, 24, 25, 26, 27, 28, 29, 30, 31, 32, 33, 34, 35, 36, 37, 38, 39, 40, 41, 42, 43] (by decide +kernel) (by decide +kernel)
set_option maxRecDepth 20000 in
theorem gX6_findWords_X6_different : GoodIn wsX6_findWords (wsV RX6 125 RX6 yX6_different wsX6_different) := goodIn_app (goodIn_of _ (by decide +kernel)) ggX6_findWords_X6_different
set_option maxRecDepth 20000 in
theorem ggX6_findWords_X6_fragmentAt : GoodIn wsX6_findWords wsX6_fragmentAt := goodIn_r _ [19, 12, 13, 14, 6, 15, 20, 21, 22, 23, 24, 25, 26, 27, 28, 29, 30, 31, 32, 33, 34, 35, 36, 37, 38, 39, 40, 41, 42, 43] (by decide +kernel) (by decide +kernel)
set_option maxRecDepth 20000 in
theorem gX6_findWords_X6_fragmentAt : GoodIn wsX6_findWords (wsV RX6 144 RX6 yX6_fragmentAt wsX6_fragmentAt) := goodIn_app (goodIn_of _ (by decide +kernel)) ggX6_findWords_X6_fragmentAt
theorem dX6_findWords_0 : decode cX6_findWords 0 = .ok (.aload_n 0, 1) := by decide +kernel
theorem dX6_findWords_1 : decode cX6_findWords 1 = .ok (.aload_n 0, 1) := by decide +kernel
theorem dX6_findWords_2 : decode cX6_findWords 2 = .ok (.iload_n 1, 1) := by decide +kernel
theorem dX6_findWords_3 : decode cX6_findWords 3 = .ok (.invokevirtual 138, 3) := by decide +kernel
theorem dX6_findWords_6 : decode cX6_findWords 6 = .ok (.putfield 141, 3) := by decide +kernel
theorem dX6_findWords_9 : decode cX6_findWords 9 = .ok (.iconst 0, 1) := by decide +kernel
theorem dX6_findWords_10 : decode cX6_findWords 10 = .ok (.istore_n 2, 1) := by decide +kernel
theorem dX6_findWords_11 : decode cX6_findWords 11 = .ok (.iload_n 2, 1) := by decide +kernel
theorem dX6_findWords_12 : decode cX6_findWords 12 = .ok (.aload_n 0, 1) := by decide +kernel
theorem dX6_findWords_13 : decode cX6_findWords 13 = .ok (.getfield 141, 3) := by decide +kernel
theorem dX6_findWords_16 : decode cX6_findWords 16 = .ok (.if_icmp .ge 72, 3) := by decide +kernel
theorem dX6_findWords_19 : decode cX6_findWords 19 = .ok (.iload_n 2, 1) := by decide +kernel
theorem dX6_findWords_20 : decode cX6_findWords 20 = .ok (.istore_n 3, 1) := by decide +kernel
theorem dX6_findWords_21 : decode cX6_findWords 21 = .ok (.iconst 0, 1) := by decide +kernel
theorem dX6_findWords_22 : decode cX6_findWords 22 = .ok (.istore 4, 2) := by decide +kernel
theorem dX6_findWords_24 : decode cX6_findWords 24 = .ok (.iconst 0, 1) := by decide +kernel
theorem dX6_findWords_25 : decode cX6_findWords 25 = .ok (.istore 5, 2) := by decide +kernel
theorem dX6_findWords_27 : decode cX6_findWords 27 = .ok (.iload 5, 2) := by decide +kernel
theorem dX6_findWords_29 : decode cX6_findWords 29 = .ok (.iconst 4, 1) := by decide +kernel
theorem dX6_findWords_30 : decode cX6_findWords 30 = .ok (.if_icmp .ge 44, 3) := by decide +kernel
theorem dX6_findWords_33 : decode cX6_findWords 33 = .ok (.aload_n 0, 1) := by decide +kernel
theorem dX6_findWords_34 : decode cX6_findWords 34 = .ok (.iload_n 1, 1) := by decide +kernel
theorem dX6_findWords_35 : decode cX6_findWords 35 = .ok (.iload 5, 2) := by decide +kernel
theorem dX6_findWords_37 : decode cX6_findWords 37 = .ok (.invokevirtual 125, 3) := by decide +kernel
theorem dX6_findWords_40 : decode cX6_findWords 40 = .ok (.istore 6, 2) := by decide +kernel
theorem dX6_findWords_42 : decode cX6_findWords 42 = .ok (.iload 4, 2) := by decide +kernel
theorem dX6_findWords_44 : decode cX6_findWords 44 = .ok (.aload_n 0, 1) := by decide +kernel
theorem dX6_findWords_45 : decode cX6_findWords 45 = .ok (.iload_n 1, 1) := by decide +kernel
theorem dX6_findWords_46 : decode cX6_findWords 46 = .ok (.iload 5, 2) := by decide +kernel
theorem dX6_findWords_48 : decode cX6_findWords 48 = .ok (.iload_n 3, 1) := by decide +kernel
theorem dX6_findWords_49 : decode cX6_findWords 49 = .ok (.iload 6, 2) := by decide +kernel
theorem dX6_findWords_51 : decode cX6_findWords 51 = .ok (.irem, 1) := by decide +kernel
theorem dX6_findWords_52 : decode cX6_findWords 52 = .ok (.invokevirtual 144, 3) := by decide +kernel
theorem dX6_findWords_55 : decode cX6_findWords 55 = .ok (.iconst 5, 1) := by decide +kernel
theorem dX6_findWords_56 : decode cX6_findWords 56 = .ok (.iload 5, 2) := by decide +kernel
theorem dX6_findWords_58 : decode cX6_findWords 58 = .ok (.imul, 1) := by decide +kernel
theorem dX6_findWords_59 : decode cX6_findWords 59 = .ok (.ishl, 1) := by decide +kernel
theorem dX6_findWords_60 : decode cX6_findWords 60 = .ok (.ior, 1) := by decide +kernel
theorem dX6_findWords_61 : decode cX6_findWords 61 = .ok (.istore 4, 2) := by decide +kernel
theorem dX6_findWords_63 : decode cX6_findWords 63 = .ok (.iload_n 3, 1) := by decide +kernel
theorem dX6_findWords_64 : decode cX6_findWords 64 = .ok (.iload 6, 2) := by decide +kernel
theorem dX6_findWords_66 : decode cX6_findWords 66 = .ok (.idiv, 1) := by decide +kernel
theorem dX6_findWords_67 : decode cX6_findWords 67 = .ok (.istore_n 3, 1) := by decide +kernel
theorem dX6_findWords_68 : decode cX6_findWords 68 = .ok (.iinc 5 1, 3) := by decide +kernel
theorem dX6_findWords_71 : decode cX6_findWords 71 = .ok (.goto (-44), 3) := by decide +kernel
theorem dX6_findWords_74 : decode cX6_findWords 74 = .ok (.aload_n 0, 1) := by decide +kernel
theorem dX6_findWords_75 : decode cX6_findWords 75 = .ok (.getfield 43, 3) := by decide +kernel
theorem dX6_findWords_78 : decode cX6_findWords 78 = .ok (.iload_n 2, 1) := by decide +kernel
theorem dX6_findWords_79 : decode cX6_findWords 79 = .ok (.iload 4, 2) := by decide +kernel
theorem dX6_findWords_81 : decode cX6_findWords 81 = .ok (.iastore, 1) := by decide +kernel
theorem dX6_findWords_82 : decode cX6_findWords 82 = .ok (.iinc 2 1, 3) := by decide +kernel
theorem dX6_findWords_85 : decode cX6_findWords 85 = .ok (.goto (-74), 3) := by decide +kernel
theorem dX6_findWords_88 : decode cX6_findWords 88 = .ok (.return_, 1) := by decide +kernel
set_option maxRecDepth 20000 in
theorem ggX6_isWord_X6_digestOf : GoodIn wsX6_isWord wsX6_digestOf := goodIn_r _ [4] (by decide +kernel) (by decide +kernel)
set_option maxRecDepth 20000 in
theorem gX6_isWord_X6_digestOf : GoodIn wsX6_isWord (va_wsS RX6 70 yX6_digestOf wsX6_digestOf) := goodIn_app (goodIn_of _ (by decide +kernel)) ggX6_isWord_X6_digestOf
theorem dX6_isWord_0 : decode cX6_isWord 0 = .ok (.iload_n 0, 1) := by decide +kernel
theorem dX6_isWord_1 : decode cX6_isWord 1 = .ok (.sipush 256, 3) := by decide +kernel
theorem dX6_isWord_4 : decode cX6_isWord 4 = .ok (.idiv, 1) := by decide +kernel
theorem dX6_isWord_5 : decode cX6_isWord 5 = .ok (.invokestatic 70, 3) := by decide +kernel
theorem dX6_isWord_8 : decode cX6_isWord 8 = .ok (.iload_n 0, 1) := by decide +kernel
theorem dX6_isWord_9 : decode cX6_isWord 9 = .ok (.sipush 256, 3) := by decide +kernel
theorem dX6_isWord_12 : decode cX6_isWord 12 = .ok (.irem, 1) := by decide +kernel
theorem dX6_isWord_13 : decode cX6_isWord 13 = .ok (.if_icmp .ne 7, 3) := by decide +kernel
theorem dX6_isWord_16 : decode cX6_isWord 16 = .ok (.iconst 1, 1) := by decide +kernel
theorem dX6_isWord_17 : decode cX6_isWord 17 = .ok (.goto 4, 3) := by decide +kernel
theorem dX6_isWord_20 : decode cX6_isWord 20 = .ok (.iconst 0, 1) := by decide +kernel
theorem dX6_isWord_21 : decode cX6_isWord 21 = .ok (.ireturn, 1) := by decide +kernel
theorem dX6_adds_0 : decode cX6_adds 0 = .ok (.aload_n 0, 1) := by decide +kernel
theorem dX6_adds_1 : decode cX6_adds 1 = .ok (.getfield 147, 3) := by decide +kernel
theorem dX6_adds_4 : decode cX6_adds 4 = .ok (.bipush 100, 2) := by decide +kernel
theorem dX6_adds_6 : decode cX6_adds 6 = .ok (.if_icmp .ne 5, 3) := by decide +kernel
theorem dX6_adds_9 : decode cX6_adds 9 = .ok (.iconst 0, 1) := by decide +kernel
theorem dX6_adds_10 : decode cX6_adds 10 = .ok (.ireturn, 1) := by decide +kernel
theorem dX6_adds_11 : decode cX6_adds 11 = .ok (.aload_n 0, 1) := by decide +kernel
theorem dX6_adds_12 : decode cX6_adds 12 = .ok (.getfield 147, 3) := by decide +kernel
theorem dX6_adds_15 : decode cX6_adds 15 = .ok (.istore 4, 2) := by decide +kernel
theorem dX6_adds_17 : decode cX6_adds 17 = .ok (.iload 4, 2) := by decide +kernel
theorem dX6_adds_19 : decode cX6_adds 19 = .ok (.ifCond .le 80, 3) := by decide +kernel
theorem dX6_adds_22 : decode cX6_adds 22 = .ok (.aload_n 0, 1) := by decide +kernel
theorem dX6_adds_23 : decode cX6_adds 23 = .ok (.getfield 37, 3) := by decide +kernel
theorem dX6_adds_26 : decode cX6_adds 26 = .ok (.iload 4, 2) := by decide +kernel
theorem dX6_adds_28 : decode cX6_adds 28 = .ok (.iconst 1, 1) := by decide +kernel
theorem dX6_adds_29 : decode cX6_adds 29 = .ok (.isub, 1) := by decide +kernel
theorem dX6_adds_30 : decode cX6_adds 30 = .ok (.iaload, 1) := by decide +kernel
theorem dX6_adds_31 : decode cX6_adds 31 = .ok (.iload_n 2, 1) := by decide +kernel
theorem dX6_adds_32 : decode cX6_adds 32 = .ok (.if_icmp .ne 67, 3) := by decide +kernel
theorem dX6_adds_35 : decode cX6_adds 35 = .ok (.aload_n 0, 1) := by decide +kernel
theorem dX6_adds_36 : decode cX6_adds 36 = .ok (.getfield 40, 3) := by decide +kernel
theorem dX6_adds_39 : decode cX6_adds 39 = .ok (.iload 4, 2) := by decide +kernel
theorem dX6_adds_41 : decode cX6_adds 41 = .ok (.iconst 1, 1) := by decide +kernel
theorem dX6_adds_42 : decode cX6_adds 42 = .ok (.isub, 1) := by decide +kernel
theorem dX6_adds_43 : decode cX6_adds 43 = .ok (.iaload, 1) := by decide +kernel
theorem dX6_adds_44 : decode cX6_adds 44 = .ok (.iload_n 3, 1) := by decide +kernel
theorem dX6_adds_45 : decode cX6_adds 45 = .ok (.if_icmp .ne 54, 3) := by decide +kernel
theorem dX6_adds_48 : decode cX6_adds 48 = .ok (.aload_n 0, 1) := by decide +kernel
theorem dX6_adds_49 : decode cX6_adds 49 = .ok (.getfield 34, 3) := by decide +kernel
theorem dX6_adds_52 : decode cX6_adds 52 = .ok (.iload 4, 2) := by decide +kernel
theorem dX6_adds_54 : decode cX6_adds 54 = .ok (.iconst 1, 1) := by decide +kernel
theorem dX6_adds_55 : decode cX6_adds 55 = .ok (.isub, 1) := by decide +kernel
theorem dX6_adds_56 : decode cX6_adds 56 = .ok (.iaload, 1) := by decide +kernel
theorem dX6_adds_57 : decode cX6_adds 57 = .ok (.iload_n 1, 1) := by decide +kernel
theorem dX6_adds_58 : decode cX6_adds 58 = .ok (.if_icmp .le 41, 3) := by decide +kernel
theorem dX6_adds_61 : decode cX6_adds 61 = .ok (.aload_n 0, 1) := by decide +kernel
theorem dX6_adds_62 : decode cX6_adds 62 = .ok (.getfield 34, 3) := by decide +kernel
theorem dX6_adds_65 : decode cX6_adds 65 = .ok (.iload 4, 2) := by decide +kernel
theorem dX6_adds_67 : decode cX6_adds 67 = .ok (.aload_n 0, 1) := by decide +kernel
theorem dX6_adds_68 : decode cX6_adds 68 = .ok (.getfield 34, 3) := by decide +kernel
theorem dX6_adds_71 : decode cX6_adds 71 = .ok (.iload 4, 2) := by decide +kernel
theorem dX6_adds_73 : decode cX6_adds 73 = .ok (.iconst 1, 1) := by decide +kernel
theorem dX6_adds_74 : decode cX6_adds 74 = .ok (.isub, 1) := by decide +kernel
theorem dX6_adds_75 : decode cX6_adds 75 = .ok (.iaload, 1) := by decide +kernel
theorem dX6_adds_76 : decode cX6_adds 76 = .ok (.iastore, 1) := by decide +kernel
theorem dX6_adds_77 : decode cX6_adds 77 = .ok (.aload_n 0, 1) := by decide +kernel
theorem dX6_adds_78 : decode cX6_adds 78 = .ok (.getfield 37, 3) := by decide +kernel
theorem dX6_adds_81 : decode cX6_adds 81 = .ok (.iload 4, 2) := by decide +kernel
theorem dX6_adds_83 : decode cX6_adds 83 = .ok (.iload_n 2, 1) := by decide +kernel
theorem dX6_adds_84 : decode cX6_adds 84 = .ok (.iastore, 1) := by decide +kernel
theorem dX6_adds_85 : decode cX6_adds 85 = .ok (.aload_n 0, 1) := by decide +kernel
theorem dX6_adds_86 : decode cX6_adds 86 = .ok (.getfield 40, 3) := by decide +kernel
theorem dX6_adds_89 : decode cX6_adds 89 = .ok (.iload 4, 2) := by decide +kernel
theorem dX6_adds_91 : decode cX6_adds 91 = .ok (.iload_n 3, 1) := by decide +kernel
theorem dX6_adds_92 : decode cX6_adds 92 = .ok (.iastore, 1) := by decide +kernel
theorem dX6_adds_93 : decode cX6_adds 93 = .ok (.iinc 4 (-1), 3) := by decide +kernel
theorem dX6_adds_96 : decode cX6_adds 96 = .ok (.goto (-79), 3) := by decide +kernel
theorem dX6_adds_99 : decode cX6_adds 99 = .ok (.aload_n 0, 1) := by decide +kernel
theorem dX6_adds_100 : decode cX6_adds 100 = .ok (.getfield 34, 3) := by decide +kernel
theorem dX6_adds_103 : decode cX6_adds 103 = .ok (.iload 4, 2) := by decide +kernel
theorem dX6_adds_105 : decode cX6_adds 105 = .ok (.iload_n 1, 1) := by decide +kernel
theorem dX6_adds_106 : decode cX6_adds 106 = .ok (.iastore, 1) := by decide +kernel
theorem dX6_adds_107 : decode cX6_adds 107 = .ok (.aload_n 0, 1) := by decide +kernel
theorem dX6_adds_108 : decode cX6_adds 108 = .ok (.getfield 37, 3) := by decide +kernel
theorem dX6_adds_111 : decode cX6_adds 111 = .ok (.iload 4, 2) := by decide +kernel
theorem dX6_adds_113 : decode cX6_adds 113 = .ok (.iload_n 2, 1) := by decide +kernel
theorem dX6_adds_114 : decode cX6_adds 114 = .ok (.iastore, 1) := by decide +kernel
theorem dX6_adds_115 : decode cX6_adds 115 = .ok (.aload_n 0, 1) := by decide +kernel
theorem dX6_adds_116 : decode cX6_adds 116 = .ok (.getfield 40, 3) := by decide +kernel
theorem dX6_adds_119 : decode cX6_adds 119 = .ok (.iload 4, 2) := by decide +kernel
theorem dX6_adds_121 : decode cX6_adds 121 = .ok (.iload_n 3, 1) := by decide +kernel
theorem dX6_adds_122 : decode cX6_adds 122 = .ok (.iastore, 1) := by decide +kernel
theorem dX6_adds_123 : decode cX6_adds 123 = .ok (.aload_n 0, 1) := by decide +kernel
theorem dX6_adds_124 : decode cX6_adds 124 = .ok (.dup, 1) := by decide +kernel
theorem dX6_adds_125 : decode cX6_adds 125 = .ok (.getfield 147, 3) := by decide +kernel
theorem dX6_adds_128 : decode cX6_adds 128 = .ok (.iconst 1, 1) := by decide +kernel
theorem dX6_adds_129 : decode cX6_adds 129 = .ok (.iadd, 1) := by decide +kernel
theorem dX6_adds_130 : decode cX6_adds 130 = .ok (.putfield 147, 3) := by decide +kernel
theorem dX6_adds_133 : decode cX6_adds 133 = .ok (.iconst 1, 1) := by decide +kernel
theorem dX6_adds_134 : decode cX6_adds 134 = .ok (.ireturn, 1) := by decide +kernel
set_option maxRecDepth 20000 in
theorem ggX6_findNodes_X6_wordOf : GoodIn wsX6_findNodes wsX6_wordOf := goodIn_r _ [7, 8, 9, 6, 10] (by decide +kernel) (by decide +kernel)
set_option maxRecDepth 20000 in
theorem gX6_findNodes_X6_wordOf : GoodIn wsX6_findNodes (va_wsS RX6 74 yX6_wordOf wsX6_wordOf) := goodIn_app (goodIn_of _ (by decide +kernel)) ggX6_findNodes_X6_wordOf
set_option maxRecDepth 20000 in
theorem ggX6_findNodes_X6_isWord : GoodIn wsX6_findNodes wsX6_isWord := goodIn_r _ [13, 8, 9, 6, 10] (by decide +kernel) (by decide +kernel)
set_option maxRecDepth 20000 in
theorem gX6_findNodes_X6_isWord : GoodIn wsX6_findNodes (va_wsS RX6 150 yX6_isWord wsX6_isWord) := goodIn_app (goodIn_of _ (by decide +kernel)) ggX6_findNodes_X6_isWord
set_option maxRecDepth 20000 in
theorem ggX6_findNodes_X6_adds : GoodIn wsX6_findNodes wsX6_adds := goodIn_r _ [17, 18, 19, 20, 1, 21, 22, 23, 24, 25, 26, 27, 28, 29, 30, 31, 32, 33, 34, 35, 36, 37, 38, 39, 40, 41, 42, 43, 44] (by decide +kernel) (by decide +kernel)
set_option maxRecDepth 20000 in
theorem gX6_findNodes_X6_adds : GoodIn wsX6_findNodes (wsV RX6 153 RX6 yX6_adds wsX6_adds) := goodIn_app (goodIn_of _ (by decide +kernel)) ggX6_findNodes_X6_adds
theorem dX6_findNodes_0 : decode cX6_findNodes 0 = .ok (.iload_n 2, 1) := by decide +kernel
theorem dX6_findNodes_1 : decode cX6_findNodes 1 = .ok (.bipush (-7), 2) := by decide +kernel
theorem dX6_findNodes_3 : decode cX6_findNodes 3 = .ok (.if_icmp .ne 7, 3) := by decide +kernel
theorem dX6_findNodes_6 : decode cX6_findNodes 6 = .ok (.iconst 0, 1) := by decide +kernel
theorem dX6_findNodes_7 : decode cX6_findNodes 7 = .ok (.goto 12, 3) := by decide +kernel
theorem dX6_findNodes_10 : decode cX6_findNodes 10 = .ok (.aload_n 0, 1) := by decide +kernel
theorem dX6_findNodes_11 : decode cX6_findNodes 11 = .ok (.getfield 34, 3) := by decide +kernel
theorem dX6_findNodes_14 : decode cX6_findNodes 14 = .ok (.iload_n 2, 1) := by decide +kernel
theorem dX6_findNodes_15 : decode cX6_findNodes 15 = .ok (.iaload, 1) := by decide +kernel
theorem dX6_findNodes_16 : decode cX6_findNodes 16 = .ok (.invokestatic 74, 3) := by decide +kernel
theorem dX6_findNodes_19 : decode cX6_findNodes 19 = .ok (.istore_n 3, 1) := by decide +kernel
theorem dX6_findNodes_20 : decode cX6_findNodes 20 = .ok (.iconst 0, 1) := by decide +kernel
theorem dX6_findNodes_21 : decode cX6_findNodes 21 = .ok (.istore 4, 2) := by decide +kernel
theorem dX6_findNodes_23 : decode cX6_findNodes 23 = .ok (.iload 4, 2) := by decide +kernel
theorem dX6_findNodes_25 : decode cX6_findNodes 25 = .ok (.aload_n 0, 1) := by decide +kernel
theorem dX6_findNodes_26 : decode cX6_findNodes 26 = .ok (.getfield 141, 3) := by decide +kernel
theorem dX6_findNodes_29 : decode cX6_findNodes 29 = .ok (.if_icmp .ge 45, 3) := by decide +kernel
theorem dX6_findNodes_32 : decode cX6_findNodes 32 = .ok (.aload_n 0, 1) := by decide +kernel
theorem dX6_findNodes_33 : decode cX6_findNodes 33 = .ok (.getfield 43, 3) := by decide +kernel
theorem dX6_findNodes_36 : decode cX6_findNodes 36 = .ok (.iload 4, 2) := by decide +kernel
theorem dX6_findNodes_38 : decode cX6_findNodes 38 = .ok (.iaload, 1) := by decide +kernel
theorem dX6_findNodes_39 : decode cX6_findNodes 39 = .ok (.iload_n 3, 1) := by decide +kernel
theorem dX6_findNodes_40 : decode cX6_findNodes 40 = .ok (.ixor, 1) := by decide +kernel
theorem dX6_findNodes_41 : decode cX6_findNodes 41 = .ok (.istore 5, 2) := by decide +kernel
theorem dX6_findNodes_43 : decode cX6_findNodes 43 = .ok (.iload 5, 2) := by decide +kernel
theorem dX6_findNodes_45 : decode cX6_findNodes 45 = .ok (.invokestatic 150, 3) := by decide +kernel
theorem dX6_findNodes_48 : decode cX6_findNodes 48 = .ok (.ifCond .eq 20, 3) := by decide +kernel
theorem dX6_findNodes_51 : decode cX6_findNodes 51 = .ok (.aload_n 0, 1) := by decide +kernel
theorem dX6_findNodes_52 : decode cX6_findNodes 52 = .ok (.iload 5, 2) := by decide +kernel
theorem dX6_findNodes_54 : decode cX6_findNodes 54 = .ok (.sipush 256, 3) := by decide +kernel
theorem dX6_findNodes_57 : decode cX6_findNodes 57 = .ok (.idiv, 1) := by decide +kernel
theorem dX6_findNodes_58 : decode cX6_findNodes 58 = .ok (.iload_n 1, 1) := by decide +kernel
theorem dX6_findNodes_59 : decode cX6_findNodes 59 = .ok (.iload_n 2, 1) := by decide +kernel
theorem dX6_findNodes_60 : decode cX6_findNodes 60 = .ok (.invokevirtual 153, 3) := by decide +kernel
theorem dX6_findNodes_63 : decode cX6_findNodes 63 = .ok (.ifCond .ne 5, 3) := by decide +kernel
theorem dX6_findNodes_66 : decode cX6_findNodes 66 = .ok (.iconst 0, 1) := by decide +kernel
theorem dX6_findNodes_67 : decode cX6_findNodes 67 = .ok (.ireturn, 1) := by decide +kernel
theorem dX6_findNodes_68 : decode cX6_findNodes 68 = .ok (.iinc 4 1, 3) := by decide +kernel
theorem dX6_findNodes_71 : decode cX6_findNodes 71 = .ok (.goto (-48), 3) := by decide +kernel
theorem dX6_findNodes_74 : decode cX6_findNodes 74 = .ok (.iconst 1, 1) := by decide +kernel
theorem dX6_findNodes_75 : decode cX6_findNodes 75 = .ok (.ireturn, 1) := by decide +kernel
set_option maxRecDepth 20000 in
theorem ggX6_findDistance_X6_combinations : GoodIn wsX6_findDistance wsX6_combinations := goodIn_r _ [7, 8, 9, 10, 6, 11, 12, 13, 14, 15, 45, 46, 47, 48, 49, 50, 51, 52, 53, 54, 55, 56, 57, 58, 59, 60, 61, 62, 63, 64, 65, 66, 67, 68] (by decide +kernel) (by decide +kernel)
set_option maxRecDepth 20000 in
theorem gX6_findDistance_X6_combinations : GoodIn wsX6_findDistance (wsV RX6 138 RX6 yX6_combinations wsX6_combinations) := goodIn_app (goodIn_of _ (by decide +kernel)) ggX6_findDistance_X6_combinations
set_option maxRecDepth 20000 in
theorem ggX6_findDistance_X6_findWords : GoodIn wsX6_findDistance wsX6_findWords := goodIn_r _ [19, 20, 21, 3, 4, 5, 6, 7, 8, 9, 10, 11, 12, 13, 14, 15, 22, 23, 24, 25, 45, 46, 47, 48, 49, 50, 51, 52, 53, 54, 55, 56, 57, 58, 59, 60, 61, 62, 63, 64, 65, 66, 67, 68] (by decide +kernel) (by decide +kernel)
set_option maxRecDepth 20000 in
theorem gX6_findDistance_X6_findWords : GoodIn wsX6_findDistance (wsV RX6 156 RX6 yX6_findWords wsX6_findWords) := goodIn_app (goodIn_of _ (by decide +kernel)) ggX6_findDistance_X6_findWords
set_option maxRecDepth 20000 in
theorem ggX6_findDistance_X6_findNodes : GoodIn wsX6_findDistance wsX6_findNodes := goodIn_r _ [29, 30, 20, 21, 31, 32, 6, 33, 34, 35, 36, 37, 38, 39, 40, 41, 42, 43, 1, 2, 44, 45, 46, 47, 48, 49, 50, 51, 52, 53, 54, 55, 56, 57, 58, 59, 60, 61, 62, 63, 64, 65, 66, 67, 68] (by decide +kernel) (by decide +kernel)
set_option maxRecDepth 20000 in
theorem gX6_findDistance_X6_findNodes : GoodIn wsX6_findDistance (wsV RX6 159 RX6 yX6_findNodes wsX6_findNodes) := goodIn_app (goodIn_of _ (by decide +kernel)) ggX6_findDistance_X6_findNodes
theorem dX6_findDistance_0 : decode cX6_findDistance 0 = .ok (.aload_n 0, 1) := by decide +kernel
theorem dX6_findDistance_1 : decode cX6_findDistance 1 = .ok (.iload_n 1, 1) := by decide +kernel
theorem dX6_findDistance_2 : decode cX6_findDistance 2 = .ok (.invokevirtual 138, 3) := by decide +kernel
theorem dX6_findDistance_5 : decode cX6_findDistance 5 = .ok (.sipush 4096, 3) := by decide +kernel
theorem dX6_findDistance_8 : decode cX6_findDistance 8 = .ok (.if_icmp .le 5, 3) := by decide +kernel
theorem dX6_findDistance_11 : decode cX6_findDistance 11 = .ok (.iconst 0, 1) := by decide +kernel
theorem dX6_findDistance_12 : decode cX6_findDistance 12 = .ok (.ireturn, 1) := by decide +kernel
theorem dX6_findDistance_13 : decode cX6_findDistance 13 = .ok (.aload_n 0, 1) := by decide +kernel
theorem dX6_findDistance_14 : decode cX6_findDistance 14 = .ok (.iload_n 1, 1) := by decide +kernel
theorem dX6_findDistance_15 : decode cX6_findDistance 15 = .ok (.invokevirtual 156, 3) := by decide +kernel
theorem dX6_findDistance_18 : decode cX6_findDistance 18 = .ok (.iload_n 1, 1) := by decide +kernel
theorem dX6_findDistance_19 : decode cX6_findDistance 19 = .ok (.ifCond .ne 11, 3) := by decide +kernel
theorem dX6_findDistance_22 : decode cX6_findDistance 22 = .ok (.aload_n 0, 1) := by decide +kernel
theorem dX6_findDistance_23 : decode cX6_findDistance 23 = .ok (.iconst 0, 1) := by decide +kernel
theorem dX6_findDistance_24 : decode cX6_findDistance 24 = .ok (.bipush (-7), 2) := by decide +kernel
theorem dX6_findDistance_26 : decode cX6_findDistance 26 = .ok (.invokevirtual 159, 3) := by decide +kernel
theorem dX6_findDistance_29 : decode cX6_findDistance 29 = .ok (.ireturn, 1) := by decide +kernel
theorem dX6_findDistance_30 : decode cX6_findDistance 30 = .ok (.aload_n 0, 1) := by decide +kernel
theorem dX6_findDistance_31 : decode cX6_findDistance 31 = .ok (.getfield 147, 3) := by decide +kernel
theorem dX6_findDistance_34 : decode cX6_findDistance 34 = .ok (.istore_n 2, 1) := by decide +kernel
theorem dX6_findDistance_35 : decode cX6_findDistance 35 = .ok (.iconst 0, 1) := by decide +kernel
theorem dX6_findDistance_36 : decode cX6_findDistance 36 = .ok (.istore_n 3, 1) := by decide +kernel
theorem dX6_findDistance_37 : decode cX6_findDistance 37 = .ok (.iload_n 3, 1) := by decide +kernel
theorem dX6_findDistance_38 : decode cX6_findDistance 38 = .ok (.iload_n 2, 1) := by decide +kernel
theorem dX6_findDistance_39 : decode cX6_findDistance 39 = .ok (.if_icmp .ge 32, 3) := by decide +kernel
theorem dX6_findDistance_42 : decode cX6_findDistance 42 = .ok (.aload_n 0, 1) := by decide +kernel
theorem dX6_findDistance_43 : decode cX6_findDistance 43 = .ok (.getfield 37, 3) := by decide +kernel
theorem dX6_findDistance_46 : decode cX6_findDistance 46 = .ok (.iload_n 3, 1) := by decide +kernel
theorem dX6_findDistance_47 : decode cX6_findDistance 47 = .ok (.iaload, 1) := by decide +kernel
theorem dX6_findDistance_48 : decode cX6_findDistance 48 = .ok (.iload_n 1, 1) := by decide +kernel
theorem dX6_findDistance_49 : decode cX6_findDistance 49 = .ok (.iconst 1, 1) := by decide +kernel
theorem dX6_findDistance_50 : decode cX6_findDistance 50 = .ok (.isub, 1) := by decide +kernel
theorem dX6_findDistance_51 : decode cX6_findDistance 51 = .ok (.if_icmp .ne 14, 3) := by decide +kernel
theorem dX6_findDistance_54 : decode cX6_findDistance 54 = .ok (.aload_n 0, 1) := by decide +kernel
theorem dX6_findDistance_55 : decode cX6_findDistance 55 = .ok (.iload_n 1, 1) := by decide +kernel
theorem dX6_findDistance_56 : decode cX6_findDistance 56 = .ok (.iload_n 3, 1) := by decide +kernel
theorem dX6_findDistance_57 : decode cX6_findDistance 57 = .ok (.invokevirtual 159, 3) := by decide +kernel
theorem dX6_findDistance_60 : decode cX6_findDistance 60 = .ok (.ifCond .ne 5, 3) := by decide +kernel
theorem dX6_findDistance_63 : decode cX6_findDistance 63 = .ok (.iconst 0, 1) := by decide +kernel
theorem dX6_findDistance_64 : decode cX6_findDistance 64 = .ok (.ireturn, 1) := by decide +kernel
theorem dX6_findDistance_65 : decode cX6_findDistance 65 = .ok (.iinc 3 1, 3) := by decide +kernel
theorem dX6_findDistance_68 : decode cX6_findDistance 68 = .ok (.goto (-31), 3) := by decide +kernel
theorem dX6_findDistance_71 : decode cX6_findDistance 71 = .ok (.iconst 1, 1) := by decide +kernel
theorem dX6_findDistance_72 : decode cX6_findDistance 72 = .ok (.ireturn, 1) := by decide +kernel
set_option maxRecDepth 20000 in
theorem ggX6_reconstruct_X6_findDistance : GoodIn wsX6_reconstruct wsX6_findDistance := goodIn_r _ [13, 1, 6, 14, 15, 16, 12, 17, 18, 19, 20, 21, 22, 23, 24, 25, 26, 27, 28, 29, 30, 31, 32, 33, 34, 35, 36, 37, 38, 39, 4, 40, 41, 42, 43, 44, 45, 46, 47, 48, 49, 50, 51, 52, 8, 53, 54, 55, 56, 57, 58, 59, 60, 61, 62, 63, 64, 65, 66, 67, 68, 69, 70, 71, 72, 73, 74, 75, 76] (by decide +kernel) (by decide +kernel)
set_option maxRecDepth 20000 in
theorem gX6_reconstruct_X6_findDistance : GoodIn wsX6_reconstruct (wsV RX6 163 RX6 yX6_findDistance wsX6_findDistance) := goodIn_app (goodIn_of _ (by decide +kernel)) ggX6_reconstruct_X6_findDistance
theorem dX6_reconstruct_0 : decode cX6_reconstruct 0 = .ok (.aload_n 0, 1) := by decide +kernel
theorem dX6_reconstruct_1 : decode cX6_reconstruct 1 = .ok (.iconst 0, 1) := by decide +kernel
theorem dX6_reconstruct_2 : decode cX6_reconstruct 2 = .ok (.putfield 147, 3) := by decide +kernel
theorem dX6_reconstruct_5 : decode cX6_reconstruct 5 = .ok (.iconst (-1), 1) := by decide +kernel
theorem dX6_reconstruct_6 : decode cX6_reconstruct 6 = .ok (.istore_n 1, 1) := by decide +kernel
theorem dX6_reconstruct_7 : decode cX6_reconstruct 7 = .ok (.iconst 0, 1) := by decide +kernel
theorem dX6_reconstruct_8 : decode cX6_reconstruct 8 = .ok (.istore_n 2, 1) := by decide +kernel
theorem dX6_reconstruct_9 : decode cX6_reconstruct 9 = .ok (.iload_n 2, 1) := by decide +kernel
theorem dX6_reconstruct_10 : decode cX6_reconstruct 10 = .ok (.bipush 20, 2) := by decide +kernel
theorem dX6_reconstruct_12 : decode cX6_reconstruct 12 = .ok (.if_icmp .gt 33, 3) := by decide +kernel
theorem dX6_reconstruct_15 : decode cX6_reconstruct 15 = .ok (.aload_n 0, 1) := by decide +kernel
theorem dX6_reconstruct_16 : decode cX6_reconstruct 16 = .ok (.getfield 147, 3) := by decide +kernel
theorem dX6_reconstruct_19 : decode cX6_reconstruct 19 = .ok (.iload_n 1, 1) := by decide +kernel
theorem dX6_reconstruct_20 : decode cX6_reconstruct 20 = .ok (.if_icmp .le 25, 3) := by decide +kernel
theorem dX6_reconstruct_23 : decode cX6_reconstruct 23 = .ok (.aload_n 0, 1) := by decide +kernel
theorem dX6_reconstruct_24 : decode cX6_reconstruct 24 = .ok (.getfield 147, 3) := by decide +kernel
theorem dX6_reconstruct_27 : decode cX6_reconstruct 27 = .ok (.istore_n 1, 1) := by decide +kernel
theorem dX6_reconstruct_28 : decode cX6_reconstruct 28 = .ok (.aload_n 0, 1) := by decide +kernel
theorem dX6_reconstruct_29 : decode cX6_reconstruct 29 = .ok (.iload_n 2, 1) := by decide +kernel
theorem dX6_reconstruct_30 : decode cX6_reconstruct 30 = .ok (.invokevirtual 163, 3) := by decide +kernel
theorem dX6_reconstruct_33 : decode cX6_reconstruct 33 = .ok (.ifCond .ne 6, 3) := by decide +kernel
theorem dX6_reconstruct_36 : decode cX6_reconstruct 36 = .ok (.bipush (-6), 2) := by decide +kernel
theorem dX6_reconstruct_38 : decode cX6_reconstruct 38 = .ok (.ireturn, 1) := by decide +kernel
theorem dX6_reconstruct_39 : decode cX6_reconstruct 39 = .ok (.iinc 2 1, 3) := by decide +kernel
theorem dX6_reconstruct_42 : decode cX6_reconstruct 42 = .ok (.goto (-33), 3) := by decide +kernel
theorem dX6_reconstruct_45 : decode cX6_reconstruct 45 = .ok (.aload_n 0, 1) := by decide +kernel
theorem dX6_reconstruct_46 : decode cX6_reconstruct 46 = .ok (.aload_n 0, 1) := by decide +kernel
theorem dX6_reconstruct_47 : decode cX6_reconstruct 47 = .ok (.getfield 147, 3) := by decide +kernel
theorem dX6_reconstruct_50 : decode cX6_reconstruct 50 = .ok (.putfield 166, 3) := by decide +kernel
theorem dX6_reconstruct_53 : decode cX6_reconstruct 53 = .ok (.iconst 0, 1) := by decide +kernel
theorem dX6_reconstruct_54 : decode cX6_reconstruct 54 = .ok (.istore_n 2, 1) := by decide +kernel
theorem dX6_reconstruct_55 : decode cX6_reconstruct 55 = .ok (.iload_n 2, 1) := by decide +kernel
theorem dX6_reconstruct_56 : decode cX6_reconstruct 56 = .ok (.aload_n 0, 1) := by decide +kernel
theorem dX6_reconstruct_57 : decode cX6_reconstruct 57 = .ok (.getfield 166, 3) := by decide +kernel
theorem dX6_reconstruct_60 : decode cX6_reconstruct 60 = .ok (.if_icmp .ge 45, 3) := by decide +kernel
theorem dX6_reconstruct_63 : decode cX6_reconstruct 63 = .ok (.aload_n 0, 1) := by decide +kernel
theorem dX6_reconstruct_64 : decode cX6_reconstruct 64 = .ok (.getfield 25, 3) := by decide +kernel
theorem dX6_reconstruct_67 : decode cX6_reconstruct 67 = .ok (.iload_n 2, 1) := by decide +kernel
theorem dX6_reconstruct_68 : decode cX6_reconstruct 68 = .ok (.aload_n 0, 1) := by decide +kernel
theorem dX6_reconstruct_69 : decode cX6_reconstruct 69 = .ok (.getfield 34, 3) := by decide +kernel
theorem dX6_reconstruct_72 : decode cX6_reconstruct 72 = .ok (.iload_n 2, 1) := by decide +kernel
theorem dX6_reconstruct_73 : decode cX6_reconstruct 73 = .ok (.iaload, 1) := by decide +kernel
theorem dX6_reconstruct_74 : decode cX6_reconstruct 74 = .ok (.iastore, 1) := by decide +kernel
theorem dX6_reconstruct_75 : decode cX6_reconstruct 75 = .ok (.aload_n 0, 1) := by decide +kernel
theorem dX6_reconstruct_76 : decode cX6_reconstruct 76 = .ok (.getfield 28, 3) := by decide +kernel
theorem dX6_reconstruct_79 : decode cX6_reconstruct 79 = .ok (.iload_n 2, 1) := by decide +kernel
theorem dX6_reconstruct_80 : decode cX6_reconstruct 80 = .ok (.aload_n 0, 1) := by decide +kernel
theorem dX6_reconstruct_81 : decode cX6_reconstruct 81 = .ok (.getfield 37, 3) := by decide +kernel
theorem dX6_reconstruct_84 : decode cX6_reconstruct 84 = .ok (.iload_n 2, 1) := by decide +kernel
theorem dX6_reconstruct_85 : decode cX6_reconstruct 85 = .ok (.iaload, 1) := by decide +kernel
theorem dX6_reconstruct_86 : decode cX6_reconstruct 86 = .ok (.iastore, 1) := by decide +kernel
theorem dX6_reconstruct_87 : decode cX6_reconstruct 87 = .ok (.aload_n 0, 1) := by decide +kernel
theorem dX6_reconstruct_88 : decode cX6_reconstruct 88 = .ok (.getfield 31, 3) := by decide +kernel
theorem dX6_reconstruct_91 : decode cX6_reconstruct 91 = .ok (.iload_n 2, 1) := by decide +kernel
theorem dX6_reconstruct_92 : decode cX6_reconstruct 92 = .ok (.aload_n 0, 1) := by decide +kernel
theorem dX6_reconstruct_93 : decode cX6_reconstruct 93 = .ok (.getfield 40, 3) := by decide +kernel
theorem dX6_reconstruct_96 : decode cX6_reconstruct 96 = .ok (.iload_n 2, 1) := by decide +kernel
theorem dX6_reconstruct_97 : decode cX6_reconstruct 97 = .ok (.iaload, 1) := by decide +kernel
theorem dX6_reconstruct_98 : decode cX6_reconstruct 98 = .ok (.iastore, 1) := by decide +kernel
theorem dX6_reconstruct_99 : decode cX6_reconstruct 99 = .ok (.iinc 2 1, 3) := by decide +kernel
theorem dX6_reconstruct_102 : decode cX6_reconstruct 102 = .ok (.goto (-47), 3) := by decide +kernel
theorem dX6_reconstruct_105 : decode cX6_reconstruct 105 = .ok (.aload_n 0, 1) := by decide +kernel
theorem dX6_reconstruct_106 : decode cX6_reconstruct 106 = .ok (.getfield 166, 3) := by decide +kernel
theorem dX6_reconstruct_109 : decode cX6_reconstruct 109 = .ok (.ireturn, 1) := by decide +kernel
theorem dX6_nodeCount_0 : decode cX6_nodeCount 0 = .ok (.aload_n 0, 1) := by decide +kernel
theorem dX6_nodeCount_1 : decode cX6_nodeCount 1 = .ok (.getfield 166, 3) := by decide +kernel
theorem dX6_nodeCount_4 : decode cX6_nodeCount 4 = .ok (.ireturn, 1) := by decide +kernel
set_option maxRecDepth 20000 in
theorem ggX6_isNode_X6_within : GoodIn wsX6_isNode wsX6_within := goodIn_r _ [5] (by decide +kernel) (by decide +kernel)
set_option maxRecDepth 20000 in
theorem gX6_isNode_X6_within : GoodIn wsX6_isNode (va_wsS RX6 56 yX6_within wsX6_within) := goodIn_app (goodIn_of _ (by decide +kernel)) ggX6_isNode_X6_within
theorem dX6_isNode_0 : decode cX6_isNode 0 = .ok (.iload_n 1, 1) := by decide +kernel
theorem dX6_isNode_1 : decode cX6_isNode 1 = .ok (.iconst 0, 1) := by decide +kernel
theorem dX6_isNode_2 : decode cX6_isNode 2 = .ok (.aload_n 0, 1) := by decide +kernel
theorem dX6_isNode_3 : decode cX6_isNode 3 = .ok (.getfield 166, 3) := by decide +kernel
theorem dX6_isNode_6 : decode cX6_isNode 6 = .ok (.iconst 1, 1) := by decide +kernel
theorem dX6_isNode_7 : decode cX6_isNode 7 = .ok (.isub, 1) := by decide +kernel
theorem dX6_isNode_8 : decode cX6_isNode 8 = .ok (.invokestatic 56, 3) := by decide +kernel
theorem dX6_isNode_11 : decode cX6_isNode 11 = .ok (.ireturn, 1) := by decide +kernel
set_option maxRecDepth 20000 in
theorem ggX6_nodeAddress_X6_isNode : GoodIn wsX6_nodeAddress wsX6_isNode := goodIn_r _ [6, 7, 8, 9, 5, 10, 11, 12, 13, 14, 15, 16, 17, 18, 19, 20, 21, 22, 23, 24, 25, 26, 27, 28, 29, 30, 31, 32, 33, 34] (by decide +kernel) (by decide +kernel)
set_option maxRecDepth 20000 in
theorem gX6_nodeAddress_X6_isNode : GoodIn wsX6_nodeAddress (wsV RX6 169 RX6 yX6_isNode wsX6_isNode) := goodIn_app (goodIn_of _ (by decide +kernel)) ggX6_nodeAddress_X6_isNode
theorem dX6_nodeAddress_0 : decode cX6_nodeAddress 0 = .ok (.aload_n 0, 1) := by decide +kernel
theorem dX6_nodeAddress_1 : decode cX6_nodeAddress 1 = .ok (.iload_n 1, 1) := by decide +kernel
theorem dX6_nodeAddress_2 : decode cX6_nodeAddress 2 = .ok (.invokevirtual 169, 3) := by decide +kernel
theorem dX6_nodeAddress_5 : decode cX6_nodeAddress 5 = .ok (.ifCond .eq 12, 3) := by decide +kernel
theorem dX6_nodeAddress_8 : decode cX6_nodeAddress 8 = .ok (.aload_n 0, 1) := by decide +kernel
theorem dX6_nodeAddress_9 : decode cX6_nodeAddress 9 = .ok (.getfield 25, 3) := by decide +kernel
theorem dX6_nodeAddress_12 : decode cX6_nodeAddress 12 = .ok (.iload_n 1, 1) := by decide +kernel
theorem dX6_nodeAddress_13 : decode cX6_nodeAddress 13 = .ok (.iaload, 1) := by decide +kernel
theorem dX6_nodeAddress_14 : decode cX6_nodeAddress 14 = .ok (.goto 5, 3) := by decide +kernel
theorem dX6_nodeAddress_17 : decode cX6_nodeAddress 17 = .ok (.bipush (-5), 2) := by decide +kernel
theorem dX6_nodeAddress_19 : decode cX6_nodeAddress 19 = .ok (.ireturn, 1) := by decide +kernel
set_option maxRecDepth 20000 in
theorem ggX6_nodeDistance_X6_isNode : GoodIn wsX6_nodeDistance wsX6_isNode := goodIn_r _ [6, 7, 8, 9, 5, 10, 11, 12, 13, 14, 15, 16, 17, 18, 19, 20, 21, 22, 23, 24, 25, 26, 27, 28, 29, 30, 31, 32, 33, 34] (by decide +kernel) (by decide +kernel)
set_option maxRecDepth 20000 in
theorem gX6_nodeDistance_X6_isNode : GoodIn wsX6_nodeDistance (wsV RX6 169 RX6 yX6_isNode wsX6_isNode) := goodIn_app (goodIn_of _ (by decide +kernel)) ggX6_nodeDistance_X6_isNode
theorem dX6_nodeDistance_0 : decode cX6_nodeDistance 0 = .ok (.aload_n 0, 1) := by decide +kernel
theorem dX6_nodeDistance_1 : decode cX6_nodeDistance 1 = .ok (.iload_n 1, 1) := by decide +kernel
theorem dX6_nodeDistance_2 : decode cX6_nodeDistance 2 = .ok (.invokevirtual 169, 3) := by decide +kernel
theorem dX6_nodeDistance_5 : decode cX6_nodeDistance 5 = .ok (.ifCond .eq 12, 3) := by decide +kernel
theorem dX6_nodeDistance_8 : decode cX6_nodeDistance 8 = .ok (.aload_n 0, 1) := by decide +kernel
theorem dX6_nodeDistance_9 : decode cX6_nodeDistance 9 = .ok (.getfield 28, 3) := by decide +kernel
theorem dX6_nodeDistance_12 : decode cX6_nodeDistance 12 = .ok (.iload_n 1, 1) := by decide +kernel
theorem dX6_nodeDistance_13 : decode cX6_nodeDistance 13 = .ok (.iaload, 1) := by decide +kernel
theorem dX6_nodeDistance_14 : decode cX6_nodeDistance 14 = .ok (.goto 5, 3) := by decide +kernel
theorem dX6_nodeDistance_17 : decode cX6_nodeDistance 17 = .ok (.bipush (-5), 2) := by decide +kernel
theorem dX6_nodeDistance_19 : decode cX6_nodeDistance 19 = .ok (.ireturn, 1) := by decide +kernel
set_option maxRecDepth 20000 in
theorem ggX6_nodeParent_X6_isNode : GoodIn wsX6_nodeParent wsX6_isNode := goodIn_r _ [6, 7, 8, 9, 5, 10, 11, 12, 13, 14, 15, 16, 17, 18, 19, 20, 21, 22, 23, 24, 25, 26, 27, 28, 29, 30, 31, 32, 33, 34] (by decide +kernel) (by decide +kernel)
set_option maxRecDepth 20000 in
theorem gX6_nodeParent_X6_isNode : GoodIn wsX6_nodeParent (wsV RX6 169 RX6 yX6_isNode wsX6_isNode) := goodIn_app (goodIn_of _ (by decide +kernel)) ggX6_nodeParent_X6_isNode
theorem dX6_nodeParent_0 : decode cX6_nodeParent 0 = .ok (.aload_n 0, 1) := by decide +kernel
theorem dX6_nodeParent_1 : decode cX6_nodeParent 1 = .ok (.iload_n 1, 1) := by decide +kernel
theorem dX6_nodeParent_2 : decode cX6_nodeParent 2 = .ok (.invokevirtual 169, 3) := by decide +kernel
theorem dX6_nodeParent_5 : decode cX6_nodeParent 5 = .ok (.ifCond .eq 12, 3) := by decide +kernel
theorem dX6_nodeParent_8 : decode cX6_nodeParent 8 = .ok (.aload_n 0, 1) := by decide +kernel
theorem dX6_nodeParent_9 : decode cX6_nodeParent 9 = .ok (.getfield 31, 3) := by decide +kernel
theorem dX6_nodeParent_12 : decode cX6_nodeParent 12 = .ok (.iload_n 1, 1) := by decide +kernel
theorem dX6_nodeParent_13 : decode cX6_nodeParent 13 = .ok (.iaload, 1) := by decide +kernel
theorem dX6_nodeParent_14 : decode cX6_nodeParent 14 = .ok (.goto 5, 3) := by decide +kernel
theorem dX6_nodeParent_17 : decode cX6_nodeParent 17 = .ok (.bipush (-5), 2) := by decide +kernel
theorem dX6_nodeParent_19 : decode cX6_nodeParent 19 = .ok (.ireturn, 1) := by decide +kernel
theorem dX6_routerWith_0 : decode cX6_routerWith 0 = .ok (.iconst 0, 1) := by decide +kernel
theorem dX6_routerWith_1 : decode cX6_routerWith 1 = .ok (.istore_n 2, 1) := by decide +kernel
theorem dX6_routerWith_2 : decode cX6_routerWith 2 = .ok (.iload_n 2, 1) := by decide +kernel
theorem dX6_routerWith_3 : decode cX6_routerWith 3 = .ok (.aload_n 0, 1) := by decide +kernel
theorem dX6_routerWith_4 : decode cX6_routerWith 4 = .ok (.getfield 53, 3) := by decide +kernel
theorem dX6_routerWith_7 : decode cX6_routerWith 7 = .ok (.if_icmp .ge 21, 3) := by decide +kernel
theorem dX6_routerWith_10 : decode cX6_routerWith 10 = .ok (.aload_n 0, 1) := by decide +kernel
theorem dX6_routerWith_11 : decode cX6_routerWith 11 = .ok (.getfield 13, 3) := by decide +kernel
theorem dX6_routerWith_14 : decode cX6_routerWith 14 = .ok (.iload_n 2, 1) := by decide +kernel
theorem dX6_routerWith_15 : decode cX6_routerWith 15 = .ok (.iaload, 1) := by decide +kernel
theorem dX6_routerWith_16 : decode cX6_routerWith 16 = .ok (.iload_n 1, 1) := by decide +kernel
theorem dX6_routerWith_17 : decode cX6_routerWith 17 = .ok (.if_icmp .ne 5, 3) := by decide +kernel
theorem dX6_routerWith_20 : decode cX6_routerWith 20 = .ok (.iload_n 2, 1) := by decide +kernel
theorem dX6_routerWith_21 : decode cX6_routerWith 21 = .ok (.ireturn, 1) := by decide +kernel
theorem dX6_routerWith_22 : decode cX6_routerWith 22 = .ok (.iinc 2 1, 3) := by decide +kernel
theorem dX6_routerWith_25 : decode cX6_routerWith 25 = .ok (.goto (-23), 3) := by decide +kernel
theorem dX6_routerWith_28 : decode cX6_routerWith 28 = .ok (.bipush (-7), 2) := by decide +kernel
theorem dX6_routerWith_30 : decode cX6_routerWith 30 = .ok (.ireturn, 1) := by decide +kernel
set_option maxRecDepth 20000 in
theorem ggX6_routerOf_X6_routerWith : GoodIn wsX6_routerOf wsX6_routerWith := goodIn_r _ [9, 10, 2, 11, 12, 13, 14, 15, 16, 17, 18, 19, 20, 21, 22, 23, 24, 25, 26, 27, 28, 29, 30, 31, 32, 33, 34] (by decide +kernel) (by decide +kernel)
set_option maxRecDepth 20000 in
theorem gX6_routerOf_X6_routerWith : GoodIn wsX6_routerOf (wsV RX6 172 RX6 yX6_routerWith wsX6_routerWith) := goodIn_app (goodIn_of _ (by decide +kernel)) ggX6_routerOf_X6_routerWith
theorem dX6_routerOf_0 : decode cX6_routerOf 0 = .ok (.aload_n 0, 1) := by decide +kernel
theorem dX6_routerOf_1 : decode cX6_routerOf 1 = .ok (.aload_n 0, 1) := by decide +kernel
theorem dX6_routerOf_2 : decode cX6_routerOf 2 = .ok (.getfield 25, 3) := by decide +kernel
theorem dX6_routerOf_5 : decode cX6_routerOf 5 = .ok (.iload_n 1, 1) := by decide +kernel
theorem dX6_routerOf_6 : decode cX6_routerOf 6 = .ok (.iaload, 1) := by decide +kernel
theorem dX6_routerOf_7 : decode cX6_routerOf 7 = .ok (.invokevirtual 172, 3) := by decide +kernel
theorem dX6_routerOf_10 : decode cX6_routerOf 10 = .ok (.istore_n 2, 1) := by decide +kernel
theorem dX6_routerOf_11 : decode cX6_routerOf 11 = .ok (.iload_n 2, 1) := by decide +kernel
theorem dX6_routerOf_12 : decode cX6_routerOf 12 = .ok (.istore_n 3, 1) := by decide +kernel
theorem dX6_routerOf_13 : decode cX6_routerOf 13 = .ok (.iload_n 1, 1) := by decide +kernel
theorem dX6_routerOf_14 : decode cX6_routerOf 14 = .ok (.istore 4, 2) := by decide +kernel
theorem dX6_routerOf_16 : decode cX6_routerOf 16 = .ok (.iload_n 3, 1) := by decide +kernel
theorem dX6_routerOf_17 : decode cX6_routerOf 17 = .ok (.bipush (-7), 2) := by decide +kernel
theorem dX6_routerOf_19 : decode cX6_routerOf 19 = .ok (.if_icmp .eq 45, 3) := by decide +kernel
theorem dX6_routerOf_22 : decode cX6_routerOf 22 = .ok (.iload 4, 2) := by decide +kernel
theorem dX6_routerOf_24 : decode cX6_routerOf 24 = .ok (.bipush (-7), 2) := by decide +kernel
theorem dX6_routerOf_26 : decode cX6_routerOf 26 = .ok (.if_icmp .eq 38, 3) := by decide +kernel
theorem dX6_routerOf_29 : decode cX6_routerOf 29 = .ok (.aload_n 0, 1) := by decide +kernel
theorem dX6_routerOf_30 : decode cX6_routerOf 30 = .ok (.getfield 13, 3) := by decide +kernel
theorem dX6_routerOf_33 : decode cX6_routerOf 33 = .ok (.iload_n 3, 1) := by decide +kernel
theorem dX6_routerOf_34 : decode cX6_routerOf 34 = .ok (.iaload, 1) := by decide +kernel
theorem dX6_routerOf_35 : decode cX6_routerOf 35 = .ok (.aload_n 0, 1) := by decide +kernel
theorem dX6_routerOf_36 : decode cX6_routerOf 36 = .ok (.getfield 25, 3) := by decide +kernel
theorem dX6_routerOf_39 : decode cX6_routerOf 39 = .ok (.iload 4, 2) := by decide +kernel
theorem dX6_routerOf_41 : decode cX6_routerOf 41 = .ok (.iaload, 1) := by decide +kernel
theorem dX6_routerOf_42 : decode cX6_routerOf 42 = .ok (.if_icmp .ne 22, 3) := by decide +kernel
theorem dX6_routerOf_45 : decode cX6_routerOf 45 = .ok (.aload_n 0, 1) := by decide +kernel
theorem dX6_routerOf_46 : decode cX6_routerOf 46 = .ok (.getfield 7, 3) := by decide +kernel
theorem dX6_routerOf_49 : decode cX6_routerOf 49 = .ok (.iload_n 3, 1) := by decide +kernel
theorem dX6_routerOf_50 : decode cX6_routerOf 50 = .ok (.iaload, 1) := by decide +kernel
theorem dX6_routerOf_51 : decode cX6_routerOf 51 = .ok (.istore_n 3, 1) := by decide +kernel
theorem dX6_routerOf_52 : decode cX6_routerOf 52 = .ok (.aload_n 0, 1) := by decide +kernel
theorem dX6_routerOf_53 : decode cX6_routerOf 53 = .ok (.getfield 31, 3) := by decide +kernel
theorem dX6_routerOf_56 : decode cX6_routerOf 56 = .ok (.iload 4, 2) := by decide +kernel
theorem dX6_routerOf_58 : decode cX6_routerOf 58 = .ok (.iaload, 1) := by decide +kernel
theorem dX6_routerOf_59 : decode cX6_routerOf 59 = .ok (.istore 4, 2) := by decide +kernel
theorem dX6_routerOf_61 : decode cX6_routerOf 61 = .ok (.goto (-45), 3) := by decide +kernel
theorem dX6_routerOf_64 : decode cX6_routerOf 64 = .ok (.iload_n 3, 1) := by decide +kernel
theorem dX6_routerOf_65 : decode cX6_routerOf 65 = .ok (.bipush (-7), 2) := by decide +kernel
theorem dX6_routerOf_67 : decode cX6_routerOf 67 = .ok (.if_icmp .ne 14, 3) := by decide +kernel
theorem dX6_routerOf_70 : decode cX6_routerOf 70 = .ok (.iload 4, 2) := by decide +kernel
theorem dX6_routerOf_72 : decode cX6_routerOf 72 = .ok (.bipush (-7), 2) := by decide +kernel
theorem dX6_routerOf_74 : decode cX6_routerOf 74 = .ok (.if_icmp .ne 7, 3) := by decide +kernel
theorem dX6_routerOf_77 : decode cX6_routerOf 77 = .ok (.iload_n 2, 1) := by decide +kernel
theorem dX6_routerOf_78 : decode cX6_routerOf 78 = .ok (.goto 5, 3) := by decide +kernel
theorem dX6_routerOf_81 : decode cX6_routerOf 81 = .ok (.bipush (-7), 2) := by decide +kernel
theorem dX6_routerOf_83 : decode cX6_routerOf 83 = .ok (.ireturn, 1) := by decide +kernel
set_option maxRecDepth 20000 in
theorem ggX6_nodeRouter_X6_isNode : GoodIn wsX6_nodeRouter wsX6_isNode := goodIn_r _ [5, 6, 7, 8, 4, 9, 23, 24, 25, 26, 27, 28, 29, 30, 31, 32, 33, 34, 35, 36, 37, 38, 39, 40, 41, 42, 43, 44, 45, 46] (by decide +kernel) (by decide +kernel)
set_option maxRecDepth 20000 in
theorem gX6_nodeRouter_X6_isNode : GoodIn wsX6_nodeRouter (wsV RX6 169 RX6 yX6_isNode wsX6_isNode) := goodIn_app (goodIn_of _ (by decide +kernel)) ggX6_nodeRouter_X6_isNode
set_option maxRecDepth 20000 in
theorem ggX6_nodeRouter_X6_routerOf : GoodIn wsX6_nodeRouter wsX6_routerOf := goodIn_r _ [13, 14, 15, 16, 17, 18, 19, 20, 4, 21, 22, 23, 24, 25, 26, 27, 28, 29, 30, 31, 32, 33, 34, 35, 36, 37, 38, 39, 40, 41, 42, 43, 44, 45, 46] (by decide +kernel) (by decide +kernel)
set_option maxRecDepth 20000 in
theorem gX6_nodeRouter_X6_routerOf : GoodIn wsX6_nodeRouter (wsV RX6 175 RX6 yX6_routerOf wsX6_routerOf) := goodIn_app (goodIn_of _ (by decide +kernel)) ggX6_nodeRouter_X6_routerOf
theorem dX6_nodeRouter_0 : decode cX6_nodeRouter 0 = .ok (.aload_n 0, 1) := by decide +kernel
theorem dX6_nodeRouter_1 : decode cX6_nodeRouter 1 = .ok (.iload_n 1, 1) := by decide +kernel
theorem dX6_nodeRouter_2 : decode cX6_nodeRouter 2 = .ok (.invokevirtual 169, 3) := by decide +kernel
theorem dX6_nodeRouter_5 : decode cX6_nodeRouter 5 = .ok (.ifCond .eq 11, 3) := by decide +kernel
theorem dX6_nodeRouter_8 : decode cX6_nodeRouter 8 = .ok (.aload_n 0, 1) := by decide +kernel
theorem dX6_nodeRouter_9 : decode cX6_nodeRouter 9 = .ok (.iload_n 1, 1) := by decide +kernel
theorem dX6_nodeRouter_10 : decode cX6_nodeRouter 10 = .ok (.invokevirtual 175, 3) := by decide +kernel
theorem dX6_nodeRouter_13 : decode cX6_nodeRouter 13 = .ok (.goto 5, 3) := by decide +kernel
theorem dX6_nodeRouter_16 : decode cX6_nodeRouter 16 = .ok (.bipush (-5), 2) := by decide +kernel
theorem dX6_nodeRouter_18 : decode cX6_nodeRouter 18 = .ok (.ireturn, 1) := by decide +kernel
set_option maxRecDepth 20000 in
theorem ggX6_falseNodeCount_X6_routerOf : GoodIn wsX6_falseNodeCount wsX6_routerOf := goodIn_r _ [6, 7, 8, 9, 10, 11, 12, 13, 5, 14, 15, 16, 17, 18, 19, 20, 21, 22, 23, 24, 25, 26, 27, 28, 29, 30, 31, 32, 33, 34, 35, 36, 37, 38, 39] (by decide +kernel) (by decide +kernel)
set_option maxRecDepth 20000 in
theorem gX6_falseNodeCount_X6_routerOf : GoodIn wsX6_falseNodeCount (wsV RX6 175 RX6 yX6_routerOf wsX6_routerOf) := goodIn_app (goodIn_of _ (by decide +kernel)) ggX6_falseNodeCount_X6_routerOf
theorem dX6_falseNodeCount_0 : decode cX6_falseNodeCount 0 = .ok (.iconst 0, 1) := by decide +kernel
theorem dX6_falseNodeCount_1 : decode cX6_falseNodeCount 1 = .ok (.istore_n 1, 1) := by decide +kernel
theorem dX6_falseNodeCount_2 : decode cX6_falseNodeCount 2 = .ok (.iconst 0, 1) := by decide +kernel
theorem dX6_falseNodeCount_3 : decode cX6_falseNodeCount 3 = .ok (.istore_n 2, 1) := by decide +kernel
theorem dX6_falseNodeCount_4 : decode cX6_falseNodeCount 4 = .ok (.iload_n 2, 1) := by decide +kernel
theorem dX6_falseNodeCount_5 : decode cX6_falseNodeCount 5 = .ok (.aload_n 0, 1) := by decide +kernel
theorem dX6_falseNodeCount_6 : decode cX6_falseNodeCount 6 = .ok (.getfield 166, 3) := by decide +kernel
theorem dX6_falseNodeCount_9 : decode cX6_falseNodeCount 9 = .ok (.if_icmp .ge 27, 3) := by decide +kernel
theorem dX6_falseNodeCount_12 : decode cX6_falseNodeCount 12 = .ok (.iload_n 1, 1) := by decide +kernel
theorem dX6_falseNodeCount_13 : decode cX6_falseNodeCount 13 = .ok (.aload_n 0, 1) := by decide +kernel
theorem dX6_falseNodeCount_14 : decode cX6_falseNodeCount 14 = .ok (.iload_n 2, 1) := by decide +kernel
theorem dX6_falseNodeCount_15 : decode cX6_falseNodeCount 15 = .ok (.invokevirtual 175, 3) := by decide +kernel
theorem dX6_falseNodeCount_18 : decode cX6_falseNodeCount 18 = .ok (.bipush (-7), 2) := by decide +kernel
theorem dX6_falseNodeCount_20 : decode cX6_falseNodeCount 20 = .ok (.if_icmp .ne 7, 3) := by decide +kernel
theorem dX6_falseNodeCount_23 : decode cX6_falseNodeCount 23 = .ok (.iconst 1, 1) := by decide +kernel
theorem dX6_falseNodeCount_24 : decode cX6_falseNodeCount 24 = .ok (.goto 4, 3) := by decide +kernel
theorem dX6_falseNodeCount_27 : decode cX6_falseNodeCount 27 = .ok (.iconst 0, 1) := by decide +kernel
theorem dX6_falseNodeCount_28 : decode cX6_falseNodeCount 28 = .ok (.iadd, 1) := by decide +kernel
theorem dX6_falseNodeCount_29 : decode cX6_falseNodeCount 29 = .ok (.istore_n 1, 1) := by decide +kernel
theorem dX6_falseNodeCount_30 : decode cX6_falseNodeCount 30 = .ok (.iinc 2 1, 3) := by decide +kernel
theorem dX6_falseNodeCount_33 : decode cX6_falseNodeCount 33 = .ok (.goto (-29), 3) := by decide +kernel
theorem dX6_falseNodeCount_36 : decode cX6_falseNodeCount 36 = .ok (.iload_n 1, 1) := by decide +kernel
theorem dX6_falseNodeCount_37 : decode cX6_falseNodeCount 37 = .ok (.ireturn, 1) := by decide +kernel
set_option maxRecDepth 20000 in
theorem ggX6_nodeOf_X6_isRouter : GoodIn wsX6_nodeOf wsX6_isRouter := goodIn_r _ [6, 7, 8, 9, 5, 10, 23, 24, 25, 26, 27, 28, 29, 30, 31, 32, 33, 34, 35, 36, 37, 38, 39, 40, 41, 42, 43, 44, 45, 46] (by decide +kernel) (by decide +kernel)
set_option maxRecDepth 20000 in
theorem gX6_nodeOf_X6_isRouter : GoodIn wsX6_nodeOf (wsV RX6 60 RX6 yX6_isRouter wsX6_isRouter) := goodIn_app (goodIn_of _ (by decide +kernel)) ggX6_nodeOf_X6_isRouter
set_option maxRecDepth 20000 in
theorem ggX6_nodeOf_X6_routerOf : GoodIn wsX6_nodeOf wsX6_routerOf := goodIn_r _ [14, 15, 16, 17, 18, 19, 20, 21, 5, 22, 7, 23, 24, 25, 26, 27, 28, 29, 30, 31, 32, 33, 34, 35, 36, 37, 38, 39, 40, 41, 42, 43, 44, 45, 46] (by decide +kernel) (by decide +kernel)
set_option maxRecDepth 20000 in
theorem gX6_nodeOf_X6_routerOf : GoodIn wsX6_nodeOf (wsV RX6 175 RX6 yX6_routerOf wsX6_routerOf) := goodIn_app (goodIn_of _ (by decide +kernel)) ggX6_nodeOf_X6_routerOf
theorem dX6_nodeOf_0 : decode cX6_nodeOf 0 = .ok (.aload_n 0, 1) := by decide +kernel
theorem dX6_nodeOf_1 : decode cX6_nodeOf 1 = .ok (.iload_n 1, 1) := by decide +kernel
theorem dX6_nodeOf_2 : decode cX6_nodeOf 2 = .ok (.invokevirtual 60, 3) := by decide +kernel
theorem dX6_nodeOf_5 : decode cX6_nodeOf 5 = .ok (.ifCond .ne 5, 3) := by decide +kernel
theorem dX6_nodeOf_8 : decode cX6_nodeOf 8 = .ok (.iconst (-1), 1) := by decide +kernel
theorem dX6_nodeOf_9 : decode cX6_nodeOf 9 = .ok (.ireturn, 1) := by decide +kernel
theorem dX6_nodeOf_10 : decode cX6_nodeOf 10 = .ok (.iconst 0, 1) := by decide +kernel
theorem dX6_nodeOf_11 : decode cX6_nodeOf 11 = .ok (.istore_n 2, 1) := by decide +kernel
theorem dX6_nodeOf_12 : decode cX6_nodeOf 12 = .ok (.iload_n 2, 1) := by decide +kernel
theorem dX6_nodeOf_13 : decode cX6_nodeOf 13 = .ok (.aload_n 0, 1) := by decide +kernel
theorem dX6_nodeOf_14 : decode cX6_nodeOf 14 = .ok (.getfield 166, 3) := by decide +kernel
theorem dX6_nodeOf_17 : decode cX6_nodeOf 17 = .ok (.if_icmp .ge 20, 3) := by decide +kernel
theorem dX6_nodeOf_20 : decode cX6_nodeOf 20 = .ok (.aload_n 0, 1) := by decide +kernel
theorem dX6_nodeOf_21 : decode cX6_nodeOf 21 = .ok (.iload_n 2, 1) := by decide +kernel
theorem dX6_nodeOf_22 : decode cX6_nodeOf 22 = .ok (.invokevirtual 175, 3) := by decide +kernel
theorem dX6_nodeOf_25 : decode cX6_nodeOf 25 = .ok (.iload_n 1, 1) := by decide +kernel
theorem dX6_nodeOf_26 : decode cX6_nodeOf 26 = .ok (.if_icmp .ne 5, 3) := by decide +kernel
theorem dX6_nodeOf_29 : decode cX6_nodeOf 29 = .ok (.iload_n 2, 1) := by decide +kernel
theorem dX6_nodeOf_30 : decode cX6_nodeOf 30 = .ok (.ireturn, 1) := by decide +kernel
theorem dX6_nodeOf_31 : decode cX6_nodeOf 31 = .ok (.iinc 2 1, 3) := by decide +kernel
theorem dX6_nodeOf_34 : decode cX6_nodeOf 34 = .ok (.goto (-22), 3) := by decide +kernel
theorem dX6_nodeOf_37 : decode cX6_nodeOf 37 = .ok (.bipush (-7), 2) := by decide +kernel
theorem dX6_nodeOf_39 : decode cX6_nodeOf 39 = .ok (.ireturn, 1) := by decide +kernel
end
section
set_option maxRecDepth 20000 in
theorem ggL_law_X5_init : GoodIn wsL_law wsX5_init := goodIn_r _ [8, 9, 10, 11, 12, 13, 14, 15, 16, 17, 18, 19, 20, 21, 22, 23, 24, 25, 26, 27, 28, 29, 30, 31, 32, 33, 34, 35, 36, 37, 38, 39, 40, 41, 42, 43, 44, 45, 46, 47, 48, 49, 50, 51, 52, 53, 54, 55, 56, 57, 58, 59, 60, 61, 62, 63, 64, 65, 66, 67, 68, 69, 70, 71, 72, 73, 687, 688, 689, 690, 655, 656, 657, 658, 659, 660, 661, 662, 691, 692, 693, 694, 695, 696, 697, 698, 699, 700, 701, 702, 703, 704] (by decide +kernel) (by decide +kernel)
set_option maxRecDepth 20000 in
theorem gL_law_X5_init : GoodIn wsL_law (wsX5_init) := ggL_law_X5_init
set_option maxRecDepth 20000 in
theorem ggL_law_X6_init : GoodIn wsL_law wsX6_init := goodIn_r _ [76, 77, 10, 11, 28, 78, 79, 80, 81, 82, 83, 84, 85, 86, 87, 88, 89, 90, 91, 663, 664, 665, 666, 667, 668, 669, 670, 671, 672, 673, 674, 675, 676, 677, 678, 679, 680, 681, 682, 683, 684, 685, 686] (by decide +kernel) (by decide +kernel)
set_option maxRecDepth 20000 in
theorem gL_law_X6_init : GoodIn wsL_law (wsX6_init) := ggL_law_X6_init
set_option maxRecDepth 20000 in
theorem ggL_law_X5_addRouter : GoodIn wsL_law wsX5_addRouter := goodIn_r _ [95, 15, 96, 97, 98, 14, 99, 43, 100, 101, 102, 103, 104, 2, 105, 106, 107, 108, 109, 110, 41, 111, 112, 113, 114, 40, 42, 115, 116, 117, 118, 119, 655, 656, 657, 658, 659, 660, 661, 662, 687, 688, 689, 690] (by decide +kernel) (by decide +kernel)
set_option maxRecDepth 20000 in
theorem gL_law_X5_addRouter : GoodIn wsL_law (wsV RL 13 RX5 yX5_addRouter wsX5_addRouter) := goodIn_app (goodIn_of _ (by decide +kernel)) ggL_law_X5_addRouter
set_option maxRecDepth 20000 in
theorem ggL_law_X6_addRouter : GoodIn wsL_law wsX6_addRouter := goodIn_r _ [123, 124, 78, 80, 79, 125, 126, 127, 5, 128, 129, 130, 131, 132, 133, 134, 135, 136, 137, 138, 663, 664, 665, 666, 667, 668, 669, 670, 671, 672, 673, 674, 675, 676, 677, 678, 679, 680, 681, 682, 683, 684, 685, 686] (by decide +kernel) (by decide +kernel)
set_option maxRecDepth 20000 in
theorem gL_law_X6_addRouter : GoodIn wsL_law (wsV RL 17 RX6 yX6_addRouter wsX6_addRouter) := goodIn_app (goodIn_of _ (by decide +kernel)) ggL_law_X6_addRouter
set_option maxRecDepth 20000 in
theorem ggL_law_X5_routerCount : GoodIn wsL_law wsX5_routerCount := goodIn_r _ [142, 15, 143, 144, 145, 14, 146, 43, 655, 656, 657, 658, 659, 660, 661, 662, 687, 688, 689, 690] (by decide +kernel) (by decide +kernel)
set_option maxRecDepth 20000 in
theorem gL_law_X5_routerCount : GoodIn wsL_law (wsV RL 18 RX5 yX5_routerCount wsX5_routerCount) := goodIn_app (goodIn_of _ (by decide +kernel)) ggL_law_X5_routerCount
set_option maxRecDepth 20000 in
theorem ggL_law_X6_routerCount : GoodIn wsL_law wsX6_routerCount := goodIn_r _ [150, 124, 663, 664, 665, 666, 667, 668, 669, 670, 671, 672, 673, 674, 675, 676, 677, 678, 679, 680, 681, 682, 683, 684, 685, 686] (by decide +kernel) (by decide +kernel)
set_option maxRecDepth 20000 in
theorem gL_law_X6_routerCount : GoodIn wsL_law (wsV RL 22 RX6 yX6_routerCount wsX6_routerCount) := goodIn_app (goodIn_of _ (by decide +kernel)) ggL_law_X6_routerCount
set_option maxRecDepth 20000 in
theorem ggL_law_X5_depth : GoodIn wsL_law wsX5_depth := goodIn_r _ [154, 15, 100, 101, 102, 14, 103, 43, 104, 2, 105, 155, 116, 117, 118, 42, 119, 655, 656, 657, 658, 659, 660, 661, 662, 687, 688, 689, 690] (by decide +kernel) (by decide +kernel)
set_option maxRecDepth 20000 in
theorem gL_law_X5_depth : GoodIn wsL_law (wsV RL 23 RX5 yX5_depth wsX5_depth) := goodIn_app (goodIn_of _ (by decide +kernel)) ggL_law_X5_depth
set_option maxRecDepth 20000 in
theorem ggL_law_X6_depth : GoodIn wsL_law wsX6_depth := goodIn_r _ [159, 80, 125, 126, 127, 5, 128, 124, 129, 130, 131, 663, 664, 665, 666, 667, 668, 669, 670, 671, 672, 673, 674, 675, 676, 677, 678, 679, 680, 681, 682, 683, 684, 685, 686] (by decide +kernel) (by decide +kernel)
set_option maxRecDepth 20000 in
theorem gL_law_X6_depth : GoodIn wsL_law (wsV RL 27 RX6 yX6_depth wsX6_depth) := goodIn_app (goodIn_of _ (by decide +kernel)) ggL_law_X6_depth
set_option maxRecDepth 20000 in
theorem ggL_law_X5_digest : GoodIn wsL_law wsX5_digest := goodIn_r _ [163, 106, 104, 2, 105, 164, 165, 166] (by decide +kernel) (by decide +kernel)
set_option maxRecDepth 20000 in
theorem gL_law_X5_digest : GoodIn wsL_law (wsV RL 28 RX5 yX5_digest wsX5_digest) := goodIn_app (goodIn_of _ (by decide +kernel)) ggL_law_X5_digest
set_option maxRecDepth 20000 in
theorem ggL_law_X6_digest : GoodIn wsL_law wsX6_digest := goodIn_r _ [170, 132, 133, 5, 134, 129, 130, 131, 171, 172, 173] (by decide +kernel) (by decide +kernel)
set_option maxRecDepth 20000 in
theorem gL_law_X6_digest : GoodIn wsL_law (wsV RL 31 RX6 yX6_digest wsX6_digest) := goodIn_app (goodIn_of _ (by decide +kernel)) ggL_law_X6_digest
set_option maxRecDepth 20000 in
theorem ggL_law_X5_fragment : GoodIn wsL_law wsX5_fragment := goodIn_r _ [177, 106, 104, 2, 105, 178, 179, 180, 164, 165, 166, 181, 182, 183] (by decide +kernel) (by decide +kernel)
set_option maxRecDepth 20000 in
theorem gL_law_X5_fragment : GoodIn wsL_law (wsV RL 32 RX5 yX5_fragment wsX5_fragment) := goodIn_app (goodIn_of _ (by decide +kernel)) ggL_law_X5_fragment
set_option maxRecDepth 20000 in
theorem ggL_law_X6_fragment : GoodIn wsL_law wsX6_fragment := goodIn_r _ [187, 132, 133, 5, 134, 129, 130, 131, 188, 189, 190, 171, 172, 173, 191, 192, 193] (by decide +kernel) (by decide +kernel)
set_option maxRecDepth 20000 in
theorem gL_law_X6_fragment : GoodIn wsL_law (wsV RL 35 RX6 yX6_fragment wsX6_fragment) := goodIn_app (goodIn_of _ (by decide +kernel)) ggL_law_X6_fragment
set_option maxRecDepth 20000 in
theorem ggL_law_X5_setMarkingPercent : GoodIn wsL_law wsX5_setMarkingPercent := goodIn_r _ [197, 30, 198, 199, 2, 200, 655, 656, 657, 658, 659, 660, 661, 662] (by decide +kernel) (by decide +kernel)
set_option maxRecDepth 20000 in
theorem gL_law_X5_setMarkingPercent : GoodIn wsL_law (wsV RL 36 RX5 yX5_setMarkingPercent wsX5_setMarkingPercent) := goodIn_app (goodIn_of _ (by decide +kernel)) ggL_law_X5_setMarkingPercent
set_option maxRecDepth 20000 in
theorem ggL_law_X6_setMarkingPercent : GoodIn wsL_law wsX6_setMarkingPercent := goodIn_r _ [204, 90, 129, 130, 5, 131, 663, 664, 665, 666, 667, 668, 669, 670, 671, 672, 673, 674, 675, 676, 677, 678, 679, 680, 681, 682, 683, 684, 685, 686] (by decide +kernel) (by decide +kernel)
set_option maxRecDepth 20000 in
theorem gL_law_X6_setMarkingPercent : GoodIn wsL_law (wsV RL 39 RX6 yX6_setMarkingPercent wsX6_setMarkingPercent) := goodIn_app (goodIn_of _ (by decide +kernel)) ggL_law_X6_setMarkingPercent
set_option maxRecDepth 20000 in
theorem ggL_law_X5_setSeed : GoodIn wsL_law wsX5_setSeed := goodIn_r _ [208, 19, 209, 210, 211, 18, 212, 48, 655, 656, 657, 658, 659, 660, 661, 662, 691] (by decide +kernel) (by decide +kernel)
set_option maxRecDepth 20000 in
theorem gL_law_X5_setSeed : GoodIn wsL_law (wsV RL 40 RX5 yX5_setSeed wsX5_setSeed) := goodIn_app (goodIn_of _ (by decide +kernel)) ggL_law_X5_setSeed
set_option maxRecDepth 20000 in
theorem ggL_law_X6_setSeed : GoodIn wsL_law wsX6_setSeed := goodIn_r _ [216, 91, 663, 664, 665, 666, 667, 668, 669, 670, 671, 672, 673, 674, 675, 676, 677, 678, 679, 680, 681, 682, 683, 684, 685, 686] (by decide +kernel) (by decide +kernel)
set_option maxRecDepth 20000 in
theorem gL_law_X6_setSeed : GoodIn wsL_law (wsV RL 43 RX6 yX6_setSeed wsX6_setSeed) := goodIn_app (goodIn_of _ (by decide +kernel)) ggL_law_X6_setSeed
set_option maxRecDepth 20000 in
theorem ggL_law_X5_clearMarks : GoodIn wsL_law wsX5_clearMarks := goodIn_r _ [220, 27, 221, 222, 223, 26, 224, 64, 65, 225, 226, 227, 228, 62, 63, 229, 230, 231, 232, 655, 656, 657, 658, 659, 660, 661, 662, 697, 698, 699, 700] (by decide +kernel) (by decide +kernel)
set_option maxRecDepth 20000 in
theorem gL_law_X5_clearMarks : GoodIn wsL_law (wsV RL 44 RX5 yX5_clearMarks wsX5_clearMarks) := goodIn_app (goodIn_of _ (by decide +kernel)) ggL_law_X5_clearMarks
set_option maxRecDepth 20000 in
theorem ggL_law_X6_clearMarks : GoodIn wsL_law wsX6_clearMarks := goodIn_r _ [236, 237, 81, 238, 663, 664, 665, 666, 667, 668, 669, 670, 671, 672, 673, 674, 675, 676, 677, 678, 679, 680, 681, 682, 683, 684, 685, 686] (by decide +kernel) (by decide +kernel)
set_option maxRecDepth 20000 in
theorem gL_law_X6_clearMarks : GoodIn wsL_law (wsV RL 47 RX6 yX6_clearMarks wsX6_clearMarks) := goodIn_app (goodIn_of _ (by decide +kernel)) ggL_law_X6_clearMarks
set_option maxRecDepth 20000 in
theorem ggL_law_X5_sendPackets : GoodIn wsL_law wsX5_sendPackets := goodIn_r _ [242, 15, 23, 100, 101, 102, 14, 103, 43, 104, 2, 105, 198, 199, 200, 243, 244, 245, 22, 246, 53, 54, 247, 248, 249, 250, 55, 56, 57, 251, 252, 253, 254, 27, 255, 256, 257, 258, 259, 260, 261, 262, 263, 264, 265, 266, 41, 119, 179, 180, 164, 165, 166, 267, 268, 269, 270, 19, 30, 271, 272, 273, 18, 274, 48, 275, 181, 182, 183, 276, 277, 278, 279, 280, 281, 282, 283, 284, 285, 286, 287, 40, 288, 289, 290, 26, 291, 64, 65, 62, 63, 292, 293, 294, 295, 296, 297, 298, 299, 300, 301, 302, 303, 304, 305, 306, 307, 308, 309, 310, 311, 312, 313, 314, 315, 316, 317, 655, 656, 657, 658, 659, 660, 661, 662, 687, 688, 689, 690, 692, 693, 694, 695, 696, 691, 697, 698, 699, 700] (by decide +kernel) (by decide +kernel)
set_option maxRecDepth 20000 in
theorem gL_law_X5_sendPackets : GoodIn wsL_law (wsV RL 48 RX5 yX5_sendPackets wsX5_sendPackets) := goodIn_app (goodIn_of _ (by decide +kernel)) ggL_law_X5_sendPackets
set_option maxRecDepth 20000 in
theorem ggL_law_X6_sendPackets : GoodIn wsL_law wsX6_sendPackets := goodIn_r _ [321, 322, 125, 126, 127, 5, 128, 124, 129, 130, 131, 323, 324, 325, 326, 78, 327, 328, 329, 330, 79, 90, 331, 332, 333, 188, 189, 190, 171, 172, 173, 334, 335, 336, 337, 91, 338, 191, 192, 193, 339, 340, 341, 342, 237, 238, 81, 343, 344, 345, 663, 664, 665, 666, 667, 668, 669, 670, 671, 672, 673, 674, 675, 676, 677, 678, 679, 680, 681, 682, 683, 684, 685, 686] (by decide +kernel) (by decide +kernel)
set_option maxRecDepth 20000 in
theorem gL_law_X6_sendPackets : GoodIn wsL_law (wsV RL 51 RX6 yX6_sendPackets wsX6_sendPackets) := goodIn_app (goodIn_of _ (by decide +kernel)) ggL_law_X6_sendPackets
set_option maxRecDepth 20000 in
theorem ggL_law_X5_sendForged : GoodIn wsL_law wsX5_sendForged := goodIn_r _ [349, 15, 23, 100, 101, 102, 14, 103, 43, 104, 2, 105, 198, 199, 200, 350, 351, 352, 106, 353, 354, 355, 22, 356, 53, 54, 247, 248, 249, 250, 55, 56, 57, 251, 252, 253, 254, 27, 255, 256, 257, 258, 259, 260, 261, 262, 263, 264, 265, 266, 41, 119, 179, 180, 164, 165, 166, 267, 268, 269, 270, 19, 30, 271, 272, 273, 18, 274, 48, 275, 181, 182, 183, 276, 277, 278, 279, 280, 281, 282, 283, 284, 285, 286, 287, 40, 288, 289, 290, 26, 291, 64, 65, 62, 63, 292, 293, 294, 295, 296, 297, 298, 299, 300, 301, 302, 303, 304, 305, 306, 307, 308, 309, 310, 311, 312, 313, 314, 315, 316, 317, 655, 656, 657, 658, 659, 660, 661, 662, 687, 688, 689, 690, 692, 693, 694, 695, 696, 691, 697, 698, 699, 700] (by decide +kernel) (by decide +kernel)
set_option maxRecDepth 20000 in
theorem gL_law_X5_sendForged : GoodIn wsL_law (wsV RL 52 RX5 yX5_sendForged wsX5_sendForged) := goodIn_app (goodIn_of _ (by decide +kernel)) ggL_law_X5_sendForged
set_option maxRecDepth 20000 in
theorem ggL_law_X6_sendForged : GoodIn wsL_law wsX6_sendForged := goodIn_r _ [360, 322, 331, 332, 333, 125, 126, 127, 5, 128, 124, 129, 130, 131, 361, 362, 363, 323, 324, 325, 326, 78, 327, 328, 329, 330, 79, 90, 188, 189, 190, 171, 172, 173, 334, 335, 336, 337, 91, 338, 191, 192, 193, 339, 340, 341, 342, 237, 238, 81, 343, 344, 345, 663, 664, 665, 666, 667, 668, 669, 670, 671, 672, 673, 674, 675, 676, 677, 678, 679, 680, 681, 682, 683, 684, 685, 686] (by decide +kernel) (by decide +kernel)
set_option maxRecDepth 20000 in
theorem gL_law_X6_sendForged : GoodIn wsL_law (wsV RL 56 RX6 yX6_sendForged wsX6_sendForged) := goodIn_app (goodIn_of _ (by decide +kernel)) ggL_law_X6_sendForged
set_option maxRecDepth 20000 in
theorem ggL_law_X5_packetsAtDistance : GoodIn wsL_law wsX5_packetsAtDistance := goodIn_r _ [367, 27, 106, 104, 2, 105, 368, 369, 370, 26, 371, 372, 373, 374, 375, 62, 308, 309, 310, 311, 312, 313, 655, 656, 657, 658, 659, 660, 661, 662, 697, 698, 699, 700] (by decide +kernel) (by decide +kernel)
set_option maxRecDepth 20000 in
theorem gL_law_X5_packetsAtDistance : GoodIn wsL_law (wsV RL 57 RX5 yX5_packetsAtDistance wsX5_packetsAtDistance) := goodIn_app (goodIn_of _ (by decide +kernel)) ggL_law_X5_packetsAtDistance
set_option maxRecDepth 20000 in
theorem ggL_law_X6_packetsAtDistance : GoodIn wsL_law wsX6_packetsAtDistance := goodIn_r _ [379, 129, 130, 5, 131, 380, 381, 382, 383, 81, 663, 664, 665, 666, 667, 668, 669, 670, 671, 672, 673, 674, 675, 676, 677, 678, 679, 680, 681, 682, 683, 684, 685, 686] (by decide +kernel) (by decide +kernel)
set_option maxRecDepth 20000 in
theorem gL_law_X6_packetsAtDistance : GoodIn wsL_law (wsV RL 60 RX6 yX6_packetsAtDistance wsX6_packetsAtDistance) := goodIn_app (goodIn_of _ (by decide +kernel)) ggL_law_X6_packetsAtDistance
set_option maxRecDepth 20000 in
theorem ggL_law_X5_unmarkedCount : GoodIn wsL_law wsX5_unmarkedCount := goodIn_r _ [387, 27, 388, 389, 390, 26, 391, 64, 655, 656, 657, 658, 659, 660, 661, 662, 697, 698, 699, 700] (by decide +kernel) (by decide +kernel)
set_option maxRecDepth 20000 in
theorem gL_law_X5_unmarkedCount : GoodIn wsL_law (wsV RL 61 RX5 yX5_unmarkedCount wsX5_unmarkedCount) := goodIn_app (goodIn_of _ (by decide +kernel)) ggL_law_X5_unmarkedCount
set_option maxRecDepth 20000 in
theorem ggL_law_X6_unmarkedCount : GoodIn wsL_law wsX6_unmarkedCount := goodIn_r _ [395, 238, 663, 664, 665, 666, 667, 668, 669, 670, 671, 672, 673, 674, 675, 676, 677, 678, 679, 680, 681, 682, 683, 684, 685, 686] (by decide +kernel) (by decide +kernel)
set_option maxRecDepth 20000 in
theorem gL_law_X6_unmarkedCount : GoodIn wsL_law (wsV RL 64 RX6 yX6_unmarkedCount wsX6_unmarkedCount) := goodIn_app (goodIn_of _ (by decide +kernel)) ggL_law_X6_unmarkedCount
set_option maxRecDepth 20000 in
theorem ggL_law_X5_markCount : GoodIn wsL_law wsX5_markCount := goodIn_r _ [399, 27, 350, 351, 2, 352, 106, 104, 105, 400, 373, 374, 26, 375, 62, 308, 309, 310, 311, 312, 313, 655, 656, 657, 658, 659, 660, 661, 662, 697, 698, 699, 700] (by decide +kernel) (by decide +kernel)
set_option maxRecDepth 20000 in
theorem gL_law_X5_markCount : GoodIn wsL_law (wsV RL 65 RX5 yX5_markCount wsX5_markCount) := goodIn_app (goodIn_of _ (by decide +kernel)) ggL_law_X5_markCount
set_option maxRecDepth 20000 in
theorem ggL_law_X6_markCount : GoodIn wsL_law wsX6_markCount := goodIn_r _ [404, 81, 361, 362, 5, 363, 129, 130, 131, 343, 344, 345, 663, 664, 665, 666, 667, 668, 669, 670, 671, 672, 673, 674, 675, 676, 677, 678, 679, 680, 681, 682, 683, 684, 685, 686] (by decide +kernel) (by decide +kernel)
set_option maxRecDepth 20000 in
theorem gL_law_X6_markCount : GoodIn wsL_law (wsV RL 69 RX6 yX6_markCount wsX6_markCount) := goodIn_app (goodIn_of _ (by decide +kernel)) ggL_law_X6_markCount
set_option maxRecDepth 20000 in
theorem ggL_law_X5_fragmentCount : GoodIn wsL_law wsX5_fragmentCount := goodIn_r _ [408, 27, 106, 104, 2, 105, 409, 410, 411, 26, 412, 63, 311, 312, 313, 413, 414, 415, 416, 417, 418, 419, 655, 656, 657, 658, 659, 660, 661, 662, 697, 698, 699, 700] (by decide +kernel) (by decide +kernel)
set_option maxRecDepth 20000 in
theorem gL_law_X5_fragmentCount : GoodIn wsL_law (wsV RL 70 RX5 yX5_fragmentCount wsX5_fragmentCount) := goodIn_app (goodIn_of _ (by decide +kernel)) ggL_law_X5_fragmentCount
set_option maxRecDepth 20000 in
theorem ggL_law_X6_fragmentCount : GoodIn wsL_law wsX6_fragmentCount := goodIn_r _ [423, 361, 362, 5, 363, 129, 130, 131, 424, 425, 426, 427, 81, 343, 344, 345, 663, 664, 665, 666, 667, 668, 669, 670, 671, 672, 673, 674, 675, 676, 677, 678, 679, 680, 681, 682, 683, 684, 685, 686] (by decide +kernel) (by decide +kernel)
set_option maxRecDepth 20000 in
theorem gL_law_X6_fragmentCount : GoodIn wsL_law (wsV RL 73 RX6 yX6_fragmentCount wsX6_fragmentCount) := goodIn_app (goodIn_of _ (by decide +kernel)) ggL_law_X6_fragmentCount
set_option maxRecDepth 20000 in
theorem ggL_law_X5_greatestDistance : GoodIn wsL_law wsX5_greatestDistance := goodIn_r _ [431, 27, 432, 433, 434, 26, 435, 63, 311, 312, 313, 655, 656, 657, 658, 659, 660, 661, 662, 697, 698, 699, 700] (by decide +kernel) (by decide +kernel)
set_option maxRecDepth 20000 in
theorem gL_law_X5_greatestDistance : GoodIn wsL_law (wsV RL 74 RX5 yX5_greatestDistance wsX5_greatestDistance) := goodIn_app (goodIn_of _ (by decide +kernel)) ggL_law_X5_greatestDistance
set_option maxRecDepth 20000 in
theorem ggL_law_X6_greatestDistance : GoodIn wsL_law wsX6_greatestDistance := goodIn_r _ [439, 380, 381, 382, 5, 383, 81, 663, 664, 665, 666, 667, 668, 669, 670, 671, 672, 673, 674, 675, 676, 677, 678, 679, 680, 681, 682, 683, 684, 685, 686] (by decide +kernel) (by decide +kernel)
set_option maxRecDepth 20000 in
theorem gL_law_X6_greatestDistance : GoodIn wsL_law (wsV RL 77 RX6 yX6_greatestDistance wsX6_greatestDistance) := goodIn_app (goodIn_of _ (by decide +kernel)) ggL_law_X6_greatestDistance
set_option maxRecDepth 20000 in
theorem ggL_law_X5_isPathComplete : GoodIn wsL_law wsX5_isPathComplete := goodIn_r _ [443, 15, 27, 100, 101, 102, 14, 103, 43, 104, 2, 105, 155, 116, 117, 118, 42, 119, 444, 445, 446, 447, 448, 285, 286, 287, 40, 449, 260, 261, 262, 263, 264, 265, 266, 41, 179, 180, 164, 165, 166, 450, 451, 452, 26, 453, 454, 455, 456, 457, 63, 311, 312, 313, 182, 183, 284, 655, 656, 657, 658, 659, 660, 661, 662, 687, 688, 689, 690, 697, 698, 699, 700] (by decide +kernel) (by decide +kernel)
set_option maxRecDepth 20000 in
theorem gL_law_X5_isPathComplete : GoodIn wsL_law (wsV RL 78 RX5 yX5_isPathComplete wsX5_isPathComplete) := goodIn_app (goodIn_of _ (by decide +kernel)) ggL_law_X5_isPathComplete
set_option maxRecDepth 20000 in
theorem ggL_law_X6_isPathComplete : GoodIn wsL_law wsX6_isPathComplete := goodIn_r _ [461, 81, 80, 78, 125, 126, 127, 5, 128, 124, 129, 130, 131, 462, 463, 464, 465, 79, 188, 189, 190, 171, 172, 173, 191, 192, 193, 343, 344, 345, 663, 664, 665, 666, 667, 668, 669, 670, 671, 672, 673, 674, 675, 676, 677, 678, 679, 680, 681, 682, 683, 684, 685, 686] (by decide +kernel) (by decide +kernel)
set_option maxRecDepth 20000 in
theorem gL_law_X6_isPathComplete : GoodIn wsL_law (wsV RL 81 RX6 yX6_isPathComplete wsX6_isPathComplete) := goodIn_app (goodIn_of _ (by decide +kernel)) ggL_law_X6_isPathComplete
set_option maxRecDepth 20000 in
theorem ggL_law_X5_packetsNeeded : GoodIn wsL_law wsX5_packetsNeeded := goodIn_r _ [469, 15, 19, 100, 101, 102, 14, 103, 43, 104, 2, 105, 198, 199, 200, 470, 471, 472, 18, 473, 48, 474, 475, 476, 477, 29, 23, 478, 230, 231, 232, 155, 116, 117, 118, 42, 119, 243, 244, 245, 22, 246, 53, 54, 247, 248, 249, 250, 55, 56, 57, 255, 256, 257, 258, 259, 260, 261, 262, 263, 264, 265, 266, 41, 179, 180, 164, 165, 166, 267, 268, 269, 270, 30, 271, 272, 273, 274, 275, 181, 182, 183, 276, 277, 278, 279, 280, 281, 282, 283, 284, 285, 286, 287, 40, 479, 480, 481, 482, 483, 301, 302, 303, 314, 315, 316, 317, 106, 484, 305, 306, 307, 209, 210, 211, 212, 655, 656, 657, 658, 659, 660, 661, 662, 687, 688, 689, 690, 691, 692, 693, 694, 695, 696] (by decide +kernel) (by decide +kernel)
set_option maxRecDepth 20000 in
theorem gL_law_X5_packetsNeeded : GoodIn wsL_law (wsV RL 82 RX5 yX5_packetsNeeded wsX5_packetsNeeded) := goodIn_app (goodIn_of _ (by decide +kernel)) ggL_law_X5_packetsNeeded
set_option maxRecDepth 20000 in
theorem ggL_law_X6_packetsNeeded : GoodIn wsL_law wsX6_packetsNeeded := goodIn_r _ [488, 91, 322, 82, 331, 125, 126, 127, 5, 128, 124, 129, 130, 131, 489, 490, 491, 492, 80, 493, 494, 495, 496, 323, 324, 325, 326, 78, 327, 328, 329, 330, 79, 90, 332, 333, 188, 189, 190, 171, 172, 173, 334, 335, 336, 337, 338, 191, 192, 193, 663, 664, 665, 666, 667, 668, 669, 670, 671, 672, 673, 674, 675, 676, 677, 678, 679, 680, 681, 682, 683, 684, 685, 686] (by decide +kernel) (by decide +kernel)
set_option maxRecDepth 20000 in
theorem gL_law_X6_packetsNeeded : GoodIn wsL_law (wsV RL 85 RX6 yX6_packetsNeeded wsX6_packetsNeeded) := goodIn_app (goodIn_of _ (by decide +kernel)) ggL_law_X6_packetsNeeded
set_option maxRecDepth 20000 in
theorem ggL_law_X5_reconstruct : GoodIn wsL_law wsX5_reconstruct := goodIn_r _ [500, 35, 34, 501, 502, 503, 33, 504, 73, 505, 506, 507, 2, 508, 27, 509, 510, 511, 512, 513, 514, 515, 26, 516, 517, 410, 411, 412, 63, 311, 312, 313, 413, 414, 415, 416, 417, 418, 419, 518, 519, 520, 521, 522, 523, 524, 525, 178, 179, 180, 164, 165, 166, 526, 455, 456, 457, 182, 183, 450, 451, 452, 453, 454, 527, 528, 529, 530, 70, 71, 72, 104, 105, 531, 532, 533, 534, 535, 536, 537, 538, 655, 656, 657, 658, 659, 660, 661, 662, 701, 702, 703, 704, 697, 698, 699, 700] (by decide +kernel) (by decide +kernel)
set_option maxRecDepth 20000 in
theorem gL_law_X5_reconstruct : GoodIn wsL_law (wsV RL 86 RX5 yX5_reconstruct wsX5_reconstruct) := goodIn_app (goodIn_of _ (by decide +kernel)) ggL_law_X5_reconstruct
set_option maxRecDepth 20000 in
theorem ggL_law_X6_reconstruct : GoodIn wsL_law wsX6_reconstruct := goodIn_r _ [542, 543, 544, 83, 86, 84, 87, 85, 88, 545, 546, 547, 5, 548, 549, 550, 551, 552, 424, 425, 426, 427, 81, 343, 344, 345, 553, 554, 555, 556, 557, 89, 558, 559, 560, 561, 562, 563, 564, 565, 188, 189, 190, 171, 172, 173, 566, 567, 568, 569, 570, 571, 572, 663, 664, 665, 666, 667, 668, 669, 670, 671, 672, 673, 674, 675, 676, 677, 678, 679, 680, 681, 682, 683, 684, 685, 686] (by decide +kernel) (by decide +kernel)
set_option maxRecDepth 20000 in
theorem gL_law_X6_reconstruct : GoodIn wsL_law (wsV RL 89 RX6 yX6_reconstruct wsX6_reconstruct) := goodIn_app (goodIn_of _ (by decide +kernel)) ggL_law_X6_reconstruct
set_option maxRecDepth 20000 in
theorem ggL_law_X5_nodeCount : GoodIn wsL_law wsX5_nodeCount := goodIn_r _ [576, 34, 509, 510, 511, 33, 512, 73, 655, 656, 657, 658, 659, 660, 661, 662, 701, 702, 703, 704] (by decide +kernel) (by decide +kernel)
set_option maxRecDepth 20000 in
theorem gL_law_X5_nodeCount : GoodIn wsL_law (wsV RL 90 RX5 yX5_nodeCount wsX5_nodeCount) := goodIn_app (goodIn_of _ (by decide +kernel)) ggL_law_X5_nodeCount
set_option maxRecDepth 20000 in
theorem ggL_law_X6_nodeCount : GoodIn wsL_law wsX6_nodeCount := goodIn_r _ [580, 544, 663, 664, 665, 666, 667, 668, 669, 670, 671, 672, 673, 674, 675, 676, 677, 678, 679, 680, 681, 682, 683, 684, 685, 686] (by decide +kernel) (by decide +kernel)
set_option maxRecDepth 20000 in
theorem gL_law_X6_nodeCount : GoodIn wsL_law (wsV RL 93 RX6 yX6_nodeCount wsX6_nodeCount) := goodIn_app (goodIn_of _ (by decide +kernel)) ggL_law_X6_nodeCount
set_option maxRecDepth 20000 in
theorem ggL_law_X5_nodeAddress : GoodIn wsL_law wsX5_nodeAddress := goodIn_r _ [584, 34, 585, 536, 537, 33, 538, 73, 104, 2, 105, 531, 532, 533, 534, 70, 535, 655, 656, 657, 658, 659, 660, 661, 662, 701, 702, 703, 704] (by decide +kernel) (by decide +kernel)
set_option maxRecDepth 20000 in
theorem gL_law_X5_nodeAddress : GoodIn wsL_law (wsV RL 94 RX5 yX5_nodeAddress wsX5_nodeAddress) := goodIn_app (goodIn_of _ (by decide +kernel)) ggL_law_X5_nodeAddress
set_option maxRecDepth 20000 in
theorem ggL_law_X6_nodeAddress : GoodIn wsL_law wsX6_nodeAddress := goodIn_r _ [589, 83, 590, 591, 592, 5, 593, 544, 129, 130, 131, 663, 664, 665, 666, 667, 668, 669, 670, 671, 672, 673, 674, 675, 676, 677, 678, 679, 680, 681, 682, 683, 684, 685, 686] (by decide +kernel) (by decide +kernel)
set_option maxRecDepth 20000 in
theorem gL_law_X6_nodeAddress : GoodIn wsL_law (wsV RL 97 RX6 yX6_nodeAddress wsX6_nodeAddress) := goodIn_app (goodIn_of _ (by decide +kernel)) ggL_law_X6_nodeAddress
set_option maxRecDepth 20000 in
theorem ggL_law_X5_nodeDistance : GoodIn wsL_law wsX5_nodeDistance := goodIn_r _ [597, 34, 585, 536, 537, 33, 538, 73, 104, 2, 105, 598, 599, 600, 601, 71, 535, 655, 656, 657, 658, 659, 660, 661, 662, 701, 702, 703, 704] (by decide +kernel) (by decide +kernel)
set_option maxRecDepth 20000 in
theorem gL_law_X5_nodeDistance : GoodIn wsL_law (wsV RL 98 RX5 yX5_nodeDistance wsX5_nodeDistance) := goodIn_app (goodIn_of _ (by decide +kernel)) ggL_law_X5_nodeDistance
set_option maxRecDepth 20000 in
theorem ggL_law_X6_nodeDistance : GoodIn wsL_law wsX6_nodeDistance := goodIn_r _ [605, 84, 590, 591, 592, 5, 593, 544, 129, 130, 131, 663, 664, 665, 666, 667, 668, 669, 670, 671, 672, 673, 674, 675, 676, 677, 678, 679, 680, 681, 682, 683, 684, 685, 686] (by decide +kernel) (by decide +kernel)
set_option maxRecDepth 20000 in
theorem gL_law_X6_nodeDistance : GoodIn wsL_law (wsV RL 101 RX6 yX6_nodeDistance wsX6_nodeDistance) := goodIn_app (goodIn_of _ (by decide +kernel)) ggL_law_X6_nodeDistance
set_option maxRecDepth 20000 in
theorem ggL_law_X5_nodeParent : GoodIn wsL_law wsX5_nodeParent := goodIn_r _ [609, 34, 585, 536, 537, 33, 538, 73, 104, 2, 105, 610, 611, 612, 613, 72, 535, 655, 656, 657, 658, 659, 660, 661, 662, 701, 702, 703, 704] (by decide +kernel) (by decide +kernel)
set_option maxRecDepth 20000 in
theorem gL_law_X5_nodeParent : GoodIn wsL_law (wsV RL 102 RX5 yX5_nodeParent wsX5_nodeParent) := goodIn_app (goodIn_of _ (by decide +kernel)) ggL_law_X5_nodeParent
set_option maxRecDepth 20000 in
theorem ggL_law_X6_nodeParent : GoodIn wsL_law wsX6_nodeParent := goodIn_r _ [617, 85, 590, 591, 592, 5, 593, 544, 129, 130, 131, 663, 664, 665, 666, 667, 668, 669, 670, 671, 672, 673, 674, 675, 676, 677, 678, 679, 680, 681, 682, 683, 684, 685, 686] (by decide +kernel) (by decide +kernel)
set_option maxRecDepth 20000 in
theorem gL_law_X6_nodeParent : GoodIn wsL_law (wsV RL 105 RX6 yX6_nodeParent wsX6_nodeParent) := goodIn_app (goodIn_of _ (by decide +kernel)) ggL_law_X6_nodeParent
set_option maxRecDepth 20000 in
theorem ggL_law_X5_nodeRouter : GoodIn wsL_law wsX5_nodeRouter := goodIn_r _ [621, 34, 585, 536, 537, 33, 538, 73, 104, 2, 105, 622, 623, 624, 625, 15, 531, 532, 533, 534, 70, 535, 107, 108, 109, 14, 110, 43, 41, 100, 101, 102, 103, 626, 264, 265, 266, 119, 284, 285, 286, 287, 40, 610, 611, 612, 613, 72, 655, 656, 657, 658, 659, 660, 661, 662, 701, 702, 703, 704, 687, 688, 689, 690] (by decide +kernel) (by decide +kernel)
set_option maxRecDepth 20000 in
theorem gL_law_X5_nodeRouter : GoodIn wsL_law (wsV RL 106 RX5 yX5_nodeRouter wsX5_nodeRouter) := goodIn_app (goodIn_of _ (by decide +kernel)) ggL_law_X5_nodeRouter
set_option maxRecDepth 20000 in
theorem ggL_law_X6_nodeRouter : GoodIn wsL_law wsX6_nodeRouter := goodIn_r _ [630, 590, 591, 592, 5, 593, 544, 129, 130, 131, 631, 632, 633, 634, 83, 79, 78, 85, 635, 636, 637, 638, 124, 663, 664, 665, 666, 667, 668, 669, 670, 671, 672, 673, 674, 675, 676, 677, 678, 679, 680, 681, 682, 683, 684, 685, 686] (by decide +kernel) (by decide +kernel)
set_option maxRecDepth 20000 in
theorem gL_law_X6_nodeRouter : GoodIn wsL_law (wsV RL 109 RX6 yX6_nodeRouter wsX6_nodeRouter) := goodIn_app (goodIn_of _ (by decide +kernel)) ggL_law_X6_nodeRouter
set_option maxRecDepth 20000 in
theorem ggL_law_X5_falseNodeCount : GoodIn wsL_law wsX5_falseNodeCount := goodIn_r _ [642, 34, 509, 510, 511, 33, 512, 73, 622, 623, 624, 2, 625, 15, 531, 532, 533, 534, 70, 535, 536, 537, 538, 104, 105, 107, 108, 109, 14, 110, 43, 41, 100, 101, 102, 103, 585, 626, 264, 265, 266, 119, 284, 285, 286, 287, 40, 610, 611, 612, 613, 72, 655, 656, 657, 658, 659, 660, 661, 662, 701, 702, 703, 704, 687, 688, 689, 690] (by decide +kernel) (by decide +kernel)
set_option maxRecDepth 20000 in
theorem gL_law_X5_falseNodeCount : GoodIn wsL_law (wsV RL 110 RX5 yX5_falseNodeCount wsX5_falseNodeCount) := goodIn_app (goodIn_of _ (by decide +kernel)) ggL_law_X5_falseNodeCount
set_option maxRecDepth 20000 in
theorem ggL_law_X6_falseNodeCount : GoodIn wsL_law wsX6_falseNodeCount := goodIn_r _ [646, 544, 631, 632, 633, 5, 634, 83, 79, 78, 85, 635, 636, 637, 638, 124, 663, 664, 665, 666, 667, 668, 669, 670, 671, 672, 673, 674, 675, 676, 677, 678, 679, 680, 681, 682, 683, 684, 685, 686] (by decide +kernel) (by decide +kernel)
set_option maxRecDepth 20000 in
theorem gL_law_X6_falseNodeCount : GoodIn wsL_law (wsV RL 113 RX6 yX6_falseNodeCount wsX6_falseNodeCount) := goodIn_app (goodIn_of _ (by decide +kernel)) ggL_law_X6_falseNodeCount
set_option maxRecDepth 20000 in
theorem ggL_law_X5_nodeOf : GoodIn wsL_law wsX5_nodeOf := goodIn_r _ [650, 15, 34, 100, 101, 102, 14, 103, 43, 104, 2, 105, 509, 510, 511, 33, 512, 73, 622, 623, 624, 625, 531, 532, 533, 534, 70, 535, 536, 537, 538, 107, 108, 109, 110, 41, 585, 626, 264, 265, 266, 119, 284, 285, 286, 287, 40, 610, 611, 612, 613, 72, 655, 656, 657, 658, 659, 660, 661, 662, 687, 688, 689, 690, 701, 702, 703, 704] (by decide +kernel) (by decide +kernel)
set_option maxRecDepth 20000 in
theorem gL_law_X5_nodeOf : GoodIn wsL_law (wsV RL 114 RX5 yX5_nodeOf wsX5_nodeOf) := goodIn_app (goodIn_of _ (by decide +kernel)) ggL_law_X5_nodeOf
set_option maxRecDepth 20000 in
theorem ggL_law_X6_nodeOf : GoodIn wsL_law wsX6_nodeOf := goodIn_r _ [654, 544, 125, 126, 127, 5, 128, 124, 129, 130, 131, 631, 632, 633, 634, 83, 79, 78, 85, 635, 636, 637, 638, 663, 664, 665, 666, 667, 668, 669, 670, 671, 672, 673, 674, 675, 676, 677, 678, 679, 680, 681, 682, 683, 684, 685, 686] (by decide +kernel) (by decide +kernel)
set_option maxRecDepth 20000 in
theorem gL_law_X6_nodeOf : GoodIn wsL_law (wsV RL 117 RX6 yX6_nodeOf wsX6_nodeOf) := goodIn_app (goodIn_of _ (by decide +kernel)) ggL_law_X6_nodeOf
theorem dL_law_0 : decode cL_law 0 = .ok (.new 7, 3) := by decide +kernel
theorem dL_law_3 : decode cL_law 3 = .ok (.dup, 1) := by decide +kernel
theorem dL_law_4 : decode cL_law 4 = .ok (.invokespecial 9, 3) := by decide +kernel
theorem dL_law_7 : decode cL_law 7 = .ok (.astore_n 1, 1) := by decide +kernel
theorem dL_law_8 : decode cL_law 8 = .ok (.new 10, 3) := by decide +kernel
theorem dL_law_11 : decode cL_law 11 = .ok (.dup, 1) := by decide +kernel
theorem dL_law_12 : decode cL_law 12 = .ok (.invokespecial 12, 3) := by decide +kernel
theorem dL_law_15 : decode cL_law 15 = .ok (.astore_n 2, 1) := by decide +kernel
theorem dL_law_16 : decode cL_law 16 = .ok (.iconst 0, 1) := by decide +kernel
theorem dL_law_17 : decode cL_law 17 = .ok (.istore_n 3, 1) := by decide +kernel
theorem dL_law_18 : decode cL_law 18 = .ok (.iload_n 3, 1) := by decide +kernel
theorem dL_law_19 : decode cL_law 19 = .ok (.aload_n 0, 1) := by decide +kernel
theorem dL_law_20 : decode cL_law 20 = .ok (.arraylength, 1) := by decide +kernel
theorem dL_law_21 : decode cL_law 21 = .ok (.bipush 6, 2) := by decide +kernel
theorem dL_law_23 : decode cL_law 23 = .ok (.isub, 1) := by decide +kernel
theorem dL_law_24 : decode cL_law 24 = .ok (.if_icmp .gt 745, 3) := by decide +kernel
theorem dL_law_27 : decode cL_law 27 = .ok (.aload_n 0, 1) := by decide +kernel
theorem dL_law_28 : decode cL_law 28 = .ok (.iload_n 3, 1) := by decide +kernel
theorem dL_law_29 : decode cL_law 29 = .ok (.iaload, 1) := by decide +kernel
theorem dL_law_30 : decode cL_law 30 = .ok (.bipush 31, 2) := by decide +kernel
theorem dL_law_32 : decode cL_law 32 = .ok (.iand, 1) := by decide +kernel
theorem dL_law_33 : decode cL_law 33 = .ok (.tableswitch 730 0 24 #[115, 148, 161, 184, 207, 240, 263, 286, 299, 332, 395, 418, 431, 474, 507, 520, 543, 576, 589, 602, 625, 648, 671, 694, 707], 115) := by decide +kernel
theorem dL_law_148 : decode cL_law 148 = .ok (.aload_n 1, 1) := by decide +kernel
theorem dL_law_149 : decode cL_law 149 = .ok (.aload_n 0, 1) := by decide +kernel
theorem dL_law_150 : decode cL_law 150 = .ok (.iload_n 3, 1) := by decide +kernel
theorem dL_law_151 : decode cL_law 151 = .ok (.iconst 1, 1) := by decide +kernel
theorem dL_law_152 : decode cL_law 152 = .ok (.iadd, 1) := by decide +kernel
theorem dL_law_153 : decode cL_law 153 = .ok (.iaload, 1) := by decide +kernel
theorem dL_law_154 : decode cL_law 154 = .ok (.aload_n 0, 1) := by decide +kernel
theorem dL_law_155 : decode cL_law 155 = .ok (.iload_n 3, 1) := by decide +kernel
theorem dL_law_156 : decode cL_law 156 = .ok (.iconst 2, 1) := by decide +kernel
theorem dL_law_157 : decode cL_law 157 = .ok (.iadd, 1) := by decide +kernel
theorem dL_law_158 : decode cL_law 158 = .ok (.iaload, 1) := by decide +kernel
theorem dL_law_159 : decode cL_law 159 = .ok (.invokevirtual 13, 3) := by decide +kernel
theorem dL_law_162 : decode cL_law 162 = .ok (.aload_n 2, 1) := by decide +kernel
theorem dL_law_163 : decode cL_law 163 = .ok (.aload_n 0, 1) := by decide +kernel
theorem dL_law_164 : decode cL_law 164 = .ok (.iload_n 3, 1) := by decide +kernel
theorem dL_law_165 : decode cL_law 165 = .ok (.iconst 1, 1) := by decide +kernel
theorem dL_law_166 : decode cL_law 166 = .ok (.iadd, 1) := by decide +kernel
theorem dL_law_167 : decode cL_law 167 = .ok (.iaload, 1) := by decide +kernel
theorem dL_law_168 : decode cL_law 168 = .ok (.aload_n 0, 1) := by decide +kernel
theorem dL_law_169 : decode cL_law 169 = .ok (.iload_n 3, 1) := by decide +kernel
theorem dL_law_170 : decode cL_law 170 = .ok (.iconst 2, 1) := by decide +kernel
theorem dL_law_171 : decode cL_law 171 = .ok (.iadd, 1) := by decide +kernel
theorem dL_law_172 : decode cL_law 172 = .ok (.iaload, 1) := by decide +kernel
end
section
theorem dL_law_173 : decode cL_law 173 = .ok (.invokevirtual 17, 3) := by decide +kernel
theorem dL_law_176 : decode cL_law 176 = .ok (.if_icmp .eq 587, 3) := by decide +kernel
theorem dL_law_179 : decode cL_law 179 = .ok (.iconst 0, 1) := by decide +kernel
theorem dL_law_180 : decode cL_law 180 = .ok (.ireturn, 1) := by decide +kernel
theorem dL_law_181 : decode cL_law 181 = .ok (.aload_n 1, 1) := by decide +kernel
theorem dL_law_182 : decode cL_law 182 = .ok (.invokevirtual 18, 3) := by decide +kernel
theorem dL_law_185 : decode cL_law 185 = .ok (.aload_n 2, 1) := by decide +kernel
theorem dL_law_186 : decode cL_law 186 = .ok (.invokevirtual 22, 3) := by decide +kernel
theorem dL_law_189 : decode cL_law 189 = .ok (.if_icmp .eq 574, 3) := by decide +kernel
theorem dL_law_192 : decode cL_law 192 = .ok (.iconst 0, 1) := by decide +kernel
theorem dL_law_193 : decode cL_law 193 = .ok (.ireturn, 1) := by decide +kernel
theorem dL_law_194 : decode cL_law 194 = .ok (.aload_n 1, 1) := by decide +kernel
theorem dL_law_195 : decode cL_law 195 = .ok (.aload_n 0, 1) := by decide +kernel
theorem dL_law_196 : decode cL_law 196 = .ok (.iload_n 3, 1) := by decide +kernel
theorem dL_law_197 : decode cL_law 197 = .ok (.iconst 1, 1) := by decide +kernel
theorem dL_law_198 : decode cL_law 198 = .ok (.iadd, 1) := by decide +kernel
theorem dL_law_199 : decode cL_law 199 = .ok (.iaload, 1) := by decide +kernel
theorem dL_law_200 : decode cL_law 200 = .ok (.invokevirtual 23, 3) := by decide +kernel
theorem dL_law_203 : decode cL_law 203 = .ok (.aload_n 2, 1) := by decide +kernel
theorem dL_law_204 : decode cL_law 204 = .ok (.aload_n 0, 1) := by decide +kernel
theorem dL_law_205 : decode cL_law 205 = .ok (.iload_n 3, 1) := by decide +kernel
theorem dL_law_206 : decode cL_law 206 = .ok (.iconst 1, 1) := by decide +kernel
theorem dL_law_207 : decode cL_law 207 = .ok (.iadd, 1) := by decide +kernel
theorem dL_law_208 : decode cL_law 208 = .ok (.iaload, 1) := by decide +kernel
theorem dL_law_209 : decode cL_law 209 = .ok (.invokevirtual 27, 3) := by decide +kernel
theorem dL_law_212 : decode cL_law 212 = .ok (.if_icmp .eq 551, 3) := by decide +kernel
theorem dL_law_215 : decode cL_law 215 = .ok (.iconst 0, 1) := by decide +kernel
theorem dL_law_216 : decode cL_law 216 = .ok (.ireturn, 1) := by decide +kernel
theorem dL_law_217 : decode cL_law 217 = .ok (.aload_n 1, 1) := by decide +kernel
theorem dL_law_218 : decode cL_law 218 = .ok (.aload_n 0, 1) := by decide +kernel
theorem dL_law_219 : decode cL_law 219 = .ok (.iload_n 3, 1) := by decide +kernel
theorem dL_law_220 : decode cL_law 220 = .ok (.iconst 1, 1) := by decide +kernel
theorem dL_law_221 : decode cL_law 221 = .ok (.iadd, 1) := by decide +kernel
theorem dL_law_222 : decode cL_law 222 = .ok (.iaload, 1) := by decide +kernel
theorem dL_law_223 : decode cL_law 223 = .ok (.invokevirtual 28, 3) := by decide +kernel
theorem dL_law_226 : decode cL_law 226 = .ok (.aload_n 2, 1) := by decide +kernel
theorem dL_law_227 : decode cL_law 227 = .ok (.aload_n 0, 1) := by decide +kernel
theorem dL_law_228 : decode cL_law 228 = .ok (.iload_n 3, 1) := by decide +kernel
theorem dL_law_229 : decode cL_law 229 = .ok (.iconst 1, 1) := by decide +kernel
theorem dL_law_230 : decode cL_law 230 = .ok (.iadd, 1) := by decide +kernel
theorem dL_law_231 : decode cL_law 231 = .ok (.iaload, 1) := by decide +kernel
theorem dL_law_232 : decode cL_law 232 = .ok (.invokevirtual 31, 3) := by decide +kernel
theorem dL_law_235 : decode cL_law 235 = .ok (.if_icmp .eq 528, 3) := by decide +kernel
theorem dL_law_238 : decode cL_law 238 = .ok (.iconst 0, 1) := by decide +kernel
theorem dL_law_239 : decode cL_law 239 = .ok (.ireturn, 1) := by decide +kernel
theorem dL_law_240 : decode cL_law 240 = .ok (.aload_n 1, 1) := by decide +kernel
theorem dL_law_241 : decode cL_law 241 = .ok (.aload_n 0, 1) := by decide +kernel
theorem dL_law_242 : decode cL_law 242 = .ok (.iload_n 3, 1) := by decide +kernel
theorem dL_law_243 : decode cL_law 243 = .ok (.iconst 1, 1) := by decide +kernel
theorem dL_law_244 : decode cL_law 244 = .ok (.iadd, 1) := by decide +kernel
theorem dL_law_245 : decode cL_law 245 = .ok (.iaload, 1) := by decide +kernel
theorem dL_law_246 : decode cL_law 246 = .ok (.aload_n 0, 1) := by decide +kernel
theorem dL_law_247 : decode cL_law 247 = .ok (.iload_n 3, 1) := by decide +kernel
theorem dL_law_248 : decode cL_law 248 = .ok (.iconst 2, 1) := by decide +kernel
theorem dL_law_249 : decode cL_law 249 = .ok (.iadd, 1) := by decide +kernel
theorem dL_law_250 : decode cL_law 250 = .ok (.iaload, 1) := by decide +kernel
theorem dL_law_251 : decode cL_law 251 = .ok (.invokevirtual 32, 3) := by decide +kernel
theorem dL_law_254 : decode cL_law 254 = .ok (.aload_n 2, 1) := by decide +kernel
theorem dL_law_255 : decode cL_law 255 = .ok (.aload_n 0, 1) := by decide +kernel
theorem dL_law_256 : decode cL_law 256 = .ok (.iload_n 3, 1) := by decide +kernel
theorem dL_law_257 : decode cL_law 257 = .ok (.iconst 1, 1) := by decide +kernel
theorem dL_law_258 : decode cL_law 258 = .ok (.iadd, 1) := by decide +kernel
theorem dL_law_259 : decode cL_law 259 = .ok (.iaload, 1) := by decide +kernel
theorem dL_law_260 : decode cL_law 260 = .ok (.aload_n 0, 1) := by decide +kernel
theorem dL_law_261 : decode cL_law 261 = .ok (.iload_n 3, 1) := by decide +kernel
theorem dL_law_262 : decode cL_law 262 = .ok (.iconst 2, 1) := by decide +kernel
theorem dL_law_263 : decode cL_law 263 = .ok (.iadd, 1) := by decide +kernel
theorem dL_law_264 : decode cL_law 264 = .ok (.iaload, 1) := by decide +kernel
theorem dL_law_265 : decode cL_law 265 = .ok (.invokevirtual 35, 3) := by decide +kernel
theorem dL_law_268 : decode cL_law 268 = .ok (.if_icmp .eq 495, 3) := by decide +kernel
theorem dL_law_271 : decode cL_law 271 = .ok (.iconst 0, 1) := by decide +kernel
theorem dL_law_272 : decode cL_law 272 = .ok (.ireturn, 1) := by decide +kernel
theorem dL_law_273 : decode cL_law 273 = .ok (.aload_n 1, 1) := by decide +kernel
theorem dL_law_274 : decode cL_law 274 = .ok (.aload_n 0, 1) := by decide +kernel
theorem dL_law_275 : decode cL_law 275 = .ok (.iload_n 3, 1) := by decide +kernel
theorem dL_law_276 : decode cL_law 276 = .ok (.iconst 1, 1) := by decide +kernel
theorem dL_law_277 : decode cL_law 277 = .ok (.iadd, 1) := by decide +kernel
theorem dL_law_278 : decode cL_law 278 = .ok (.iaload, 1) := by decide +kernel
theorem dL_law_279 : decode cL_law 279 = .ok (.invokevirtual 36, 3) := by decide +kernel
theorem dL_law_282 : decode cL_law 282 = .ok (.aload_n 2, 1) := by decide +kernel
theorem dL_law_283 : decode cL_law 283 = .ok (.aload_n 0, 1) := by decide +kernel
theorem dL_law_284 : decode cL_law 284 = .ok (.iload_n 3, 1) := by decide +kernel
theorem dL_law_285 : decode cL_law 285 = .ok (.iconst 1, 1) := by decide +kernel
theorem dL_law_286 : decode cL_law 286 = .ok (.iadd, 1) := by decide +kernel
theorem dL_law_287 : decode cL_law 287 = .ok (.iaload, 1) := by decide +kernel
theorem dL_law_288 : decode cL_law 288 = .ok (.invokevirtual 39, 3) := by decide +kernel
theorem dL_law_291 : decode cL_law 291 = .ok (.if_icmp .eq 472, 3) := by decide +kernel
theorem dL_law_294 : decode cL_law 294 = .ok (.iconst 0, 1) := by decide +kernel
theorem dL_law_295 : decode cL_law 295 = .ok (.ireturn, 1) := by decide +kernel
theorem dL_law_296 : decode cL_law 296 = .ok (.aload_n 1, 1) := by decide +kernel
theorem dL_law_297 : decode cL_law 297 = .ok (.aload_n 0, 1) := by decide +kernel
theorem dL_law_298 : decode cL_law 298 = .ok (.iload_n 3, 1) := by decide +kernel
theorem dL_law_299 : decode cL_law 299 = .ok (.iconst 1, 1) := by decide +kernel
theorem dL_law_300 : decode cL_law 300 = .ok (.iadd, 1) := by decide +kernel
theorem dL_law_301 : decode cL_law 301 = .ok (.iaload, 1) := by decide +kernel
theorem dL_law_302 : decode cL_law 302 = .ok (.invokevirtual 40, 3) := by decide +kernel
theorem dL_law_305 : decode cL_law 305 = .ok (.aload_n 2, 1) := by decide +kernel
theorem dL_law_306 : decode cL_law 306 = .ok (.aload_n 0, 1) := by decide +kernel
theorem dL_law_307 : decode cL_law 307 = .ok (.iload_n 3, 1) := by decide +kernel
theorem dL_law_308 : decode cL_law 308 = .ok (.iconst 1, 1) := by decide +kernel
theorem dL_law_309 : decode cL_law 309 = .ok (.iadd, 1) := by decide +kernel
theorem dL_law_310 : decode cL_law 310 = .ok (.iaload, 1) := by decide +kernel
theorem dL_law_311 : decode cL_law 311 = .ok (.invokevirtual 43, 3) := by decide +kernel
theorem dL_law_314 : decode cL_law 314 = .ok (.if_icmp .eq 449, 3) := by decide +kernel
theorem dL_law_317 : decode cL_law 317 = .ok (.iconst 0, 1) := by decide +kernel
theorem dL_law_318 : decode cL_law 318 = .ok (.ireturn, 1) := by decide +kernel
theorem dL_law_319 : decode cL_law 319 = .ok (.aload_n 1, 1) := by decide +kernel
theorem dL_law_320 : decode cL_law 320 = .ok (.invokevirtual 44, 3) := by decide +kernel
theorem dL_law_323 : decode cL_law 323 = .ok (.aload_n 2, 1) := by decide +kernel
theorem dL_law_324 : decode cL_law 324 = .ok (.invokevirtual 47, 3) := by decide +kernel
theorem dL_law_327 : decode cL_law 327 = .ok (.if_icmp .eq 436, 3) := by decide +kernel
theorem dL_law_330 : decode cL_law 330 = .ok (.iconst 0, 1) := by decide +kernel
theorem dL_law_331 : decode cL_law 331 = .ok (.ireturn, 1) := by decide +kernel
theorem dL_law_332 : decode cL_law 332 = .ok (.aload_n 1, 1) := by decide +kernel
theorem dL_law_333 : decode cL_law 333 = .ok (.aload_n 0, 1) := by decide +kernel
theorem dL_law_334 : decode cL_law 334 = .ok (.iload_n 3, 1) := by decide +kernel
theorem dL_law_335 : decode cL_law 335 = .ok (.iconst 1, 1) := by decide +kernel
theorem dL_law_336 : decode cL_law 336 = .ok (.iadd, 1) := by decide +kernel
theorem dL_law_337 : decode cL_law 337 = .ok (.iaload, 1) := by decide +kernel
theorem dL_law_338 : decode cL_law 338 = .ok (.aload_n 0, 1) := by decide +kernel
theorem dL_law_339 : decode cL_law 339 = .ok (.iload_n 3, 1) := by decide +kernel
theorem dL_law_340 : decode cL_law 340 = .ok (.iconst 2, 1) := by decide +kernel
theorem dL_law_341 : decode cL_law 341 = .ok (.iadd, 1) := by decide +kernel
theorem dL_law_342 : decode cL_law 342 = .ok (.iaload, 1) := by decide +kernel
theorem dL_law_343 : decode cL_law 343 = .ok (.invokevirtual 48, 3) := by decide +kernel
theorem dL_law_346 : decode cL_law 346 = .ok (.aload_n 2, 1) := by decide +kernel
theorem dL_law_347 : decode cL_law 347 = .ok (.aload_n 0, 1) := by decide +kernel
theorem dL_law_348 : decode cL_law 348 = .ok (.iload_n 3, 1) := by decide +kernel
theorem dL_law_349 : decode cL_law 349 = .ok (.iconst 1, 1) := by decide +kernel
theorem dL_law_350 : decode cL_law 350 = .ok (.iadd, 1) := by decide +kernel
theorem dL_law_351 : decode cL_law 351 = .ok (.iaload, 1) := by decide +kernel
theorem dL_law_352 : decode cL_law 352 = .ok (.aload_n 0, 1) := by decide +kernel
theorem dL_law_353 : decode cL_law 353 = .ok (.iload_n 3, 1) := by decide +kernel
theorem dL_law_354 : decode cL_law 354 = .ok (.iconst 2, 1) := by decide +kernel
theorem dL_law_355 : decode cL_law 355 = .ok (.iadd, 1) := by decide +kernel
theorem dL_law_356 : decode cL_law 356 = .ok (.iaload, 1) := by decide +kernel
theorem dL_law_357 : decode cL_law 357 = .ok (.invokevirtual 51, 3) := by decide +kernel
theorem dL_law_360 : decode cL_law 360 = .ok (.if_icmp .eq 403, 3) := by decide +kernel
theorem dL_law_363 : decode cL_law 363 = .ok (.iconst 0, 1) := by decide +kernel
theorem dL_law_364 : decode cL_law 364 = .ok (.ireturn, 1) := by decide +kernel
theorem dL_law_365 : decode cL_law 365 = .ok (.aload_n 1, 1) := by decide +kernel
theorem dL_law_366 : decode cL_law 366 = .ok (.aload_n 0, 1) := by decide +kernel
theorem dL_law_367 : decode cL_law 367 = .ok (.iload_n 3, 1) := by decide +kernel
theorem dL_law_368 : decode cL_law 368 = .ok (.iconst 1, 1) := by decide +kernel
theorem dL_law_369 : decode cL_law 369 = .ok (.iadd, 1) := by decide +kernel
theorem dL_law_370 : decode cL_law 370 = .ok (.iaload, 1) := by decide +kernel
theorem dL_law_371 : decode cL_law 371 = .ok (.aload_n 0, 1) := by decide +kernel
theorem dL_law_372 : decode cL_law 372 = .ok (.iload_n 3, 1) := by decide +kernel
theorem dL_law_373 : decode cL_law 373 = .ok (.iconst 2, 1) := by decide +kernel
end
section
theorem dL_law_374 : decode cL_law 374 = .ok (.iadd, 1) := by decide +kernel
theorem dL_law_375 : decode cL_law 375 = .ok (.iaload, 1) := by decide +kernel
theorem dL_law_376 : decode cL_law 376 = .ok (.aload_n 0, 1) := by decide +kernel
theorem dL_law_377 : decode cL_law 377 = .ok (.iload_n 3, 1) := by decide +kernel
theorem dL_law_378 : decode cL_law 378 = .ok (.iconst 3, 1) := by decide +kernel
theorem dL_law_379 : decode cL_law 379 = .ok (.iadd, 1) := by decide +kernel
theorem dL_law_380 : decode cL_law 380 = .ok (.iaload, 1) := by decide +kernel
theorem dL_law_381 : decode cL_law 381 = .ok (.aload_n 0, 1) := by decide +kernel
theorem dL_law_382 : decode cL_law 382 = .ok (.iload_n 3, 1) := by decide +kernel
theorem dL_law_383 : decode cL_law 383 = .ok (.iconst 4, 1) := by decide +kernel
theorem dL_law_384 : decode cL_law 384 = .ok (.iadd, 1) := by decide +kernel
theorem dL_law_385 : decode cL_law 385 = .ok (.iaload, 1) := by decide +kernel
theorem dL_law_386 : decode cL_law 386 = .ok (.aload_n 0, 1) := by decide +kernel
theorem dL_law_387 : decode cL_law 387 = .ok (.iload_n 3, 1) := by decide +kernel
theorem dL_law_388 : decode cL_law 388 = .ok (.iconst 5, 1) := by decide +kernel
theorem dL_law_389 : decode cL_law 389 = .ok (.iadd, 1) := by decide +kernel
theorem dL_law_390 : decode cL_law 390 = .ok (.iaload, 1) := by decide +kernel
theorem dL_law_391 : decode cL_law 391 = .ok (.invokevirtual 52, 3) := by decide +kernel
theorem dL_law_394 : decode cL_law 394 = .ok (.aload_n 2, 1) := by decide +kernel
theorem dL_law_395 : decode cL_law 395 = .ok (.aload_n 0, 1) := by decide +kernel
theorem dL_law_396 : decode cL_law 396 = .ok (.iload_n 3, 1) := by decide +kernel
theorem dL_law_397 : decode cL_law 397 = .ok (.iconst 1, 1) := by decide +kernel
theorem dL_law_398 : decode cL_law 398 = .ok (.iadd, 1) := by decide +kernel
theorem dL_law_399 : decode cL_law 399 = .ok (.iaload, 1) := by decide +kernel
theorem dL_law_400 : decode cL_law 400 = .ok (.aload_n 0, 1) := by decide +kernel
theorem dL_law_401 : decode cL_law 401 = .ok (.iload_n 3, 1) := by decide +kernel
theorem dL_law_402 : decode cL_law 402 = .ok (.iconst 2, 1) := by decide +kernel
theorem dL_law_403 : decode cL_law 403 = .ok (.iadd, 1) := by decide +kernel
theorem dL_law_404 : decode cL_law 404 = .ok (.iaload, 1) := by decide +kernel
theorem dL_law_405 : decode cL_law 405 = .ok (.aload_n 0, 1) := by decide +kernel
theorem dL_law_406 : decode cL_law 406 = .ok (.iload_n 3, 1) := by decide +kernel
theorem dL_law_407 : decode cL_law 407 = .ok (.iconst 3, 1) := by decide +kernel
theorem dL_law_408 : decode cL_law 408 = .ok (.iadd, 1) := by decide +kernel
theorem dL_law_409 : decode cL_law 409 = .ok (.iaload, 1) := by decide +kernel
theorem dL_law_410 : decode cL_law 410 = .ok (.aload_n 0, 1) := by decide +kernel
theorem dL_law_411 : decode cL_law 411 = .ok (.iload_n 3, 1) := by decide +kernel
theorem dL_law_412 : decode cL_law 412 = .ok (.iconst 4, 1) := by decide +kernel
theorem dL_law_413 : decode cL_law 413 = .ok (.iadd, 1) := by decide +kernel
theorem dL_law_414 : decode cL_law 414 = .ok (.iaload, 1) := by decide +kernel
theorem dL_law_415 : decode cL_law 415 = .ok (.aload_n 0, 1) := by decide +kernel
theorem dL_law_416 : decode cL_law 416 = .ok (.iload_n 3, 1) := by decide +kernel
theorem dL_law_417 : decode cL_law 417 = .ok (.iconst 5, 1) := by decide +kernel
theorem dL_law_418 : decode cL_law 418 = .ok (.iadd, 1) := by decide +kernel
theorem dL_law_419 : decode cL_law 419 = .ok (.iaload, 1) := by decide +kernel
theorem dL_law_420 : decode cL_law 420 = .ok (.invokevirtual 56, 3) := by decide +kernel
theorem dL_law_423 : decode cL_law 423 = .ok (.if_icmp .eq 340, 3) := by decide +kernel
theorem dL_law_426 : decode cL_law 426 = .ok (.iconst 0, 1) := by decide +kernel
theorem dL_law_427 : decode cL_law 427 = .ok (.ireturn, 1) := by decide +kernel
theorem dL_law_428 : decode cL_law 428 = .ok (.aload_n 1, 1) := by decide +kernel
theorem dL_law_429 : decode cL_law 429 = .ok (.aload_n 0, 1) := by decide +kernel
theorem dL_law_430 : decode cL_law 430 = .ok (.iload_n 3, 1) := by decide +kernel
theorem dL_law_431 : decode cL_law 431 = .ok (.iconst 1, 1) := by decide +kernel
theorem dL_law_432 : decode cL_law 432 = .ok (.iadd, 1) := by decide +kernel
theorem dL_law_433 : decode cL_law 433 = .ok (.iaload, 1) := by decide +kernel
theorem dL_law_434 : decode cL_law 434 = .ok (.invokevirtual 57, 3) := by decide +kernel
theorem dL_law_437 : decode cL_law 437 = .ok (.aload_n 2, 1) := by decide +kernel
theorem dL_law_438 : decode cL_law 438 = .ok (.aload_n 0, 1) := by decide +kernel
theorem dL_law_439 : decode cL_law 439 = .ok (.iload_n 3, 1) := by decide +kernel
theorem dL_law_440 : decode cL_law 440 = .ok (.iconst 1, 1) := by decide +kernel
theorem dL_law_441 : decode cL_law 441 = .ok (.iadd, 1) := by decide +kernel
theorem dL_law_442 : decode cL_law 442 = .ok (.iaload, 1) := by decide +kernel
theorem dL_law_443 : decode cL_law 443 = .ok (.invokevirtual 60, 3) := by decide +kernel
theorem dL_law_446 : decode cL_law 446 = .ok (.if_icmp .eq 317, 3) := by decide +kernel
theorem dL_law_449 : decode cL_law 449 = .ok (.iconst 0, 1) := by decide +kernel
theorem dL_law_450 : decode cL_law 450 = .ok (.ireturn, 1) := by decide +kernel
theorem dL_law_451 : decode cL_law 451 = .ok (.aload_n 1, 1) := by decide +kernel
theorem dL_law_452 : decode cL_law 452 = .ok (.invokevirtual 61, 3) := by decide +kernel
theorem dL_law_455 : decode cL_law 455 = .ok (.aload_n 2, 1) := by decide +kernel
theorem dL_law_456 : decode cL_law 456 = .ok (.invokevirtual 64, 3) := by decide +kernel
theorem dL_law_459 : decode cL_law 459 = .ok (.if_icmp .eq 304, 3) := by decide +kernel
theorem dL_law_462 : decode cL_law 462 = .ok (.iconst 0, 1) := by decide +kernel
theorem dL_law_463 : decode cL_law 463 = .ok (.ireturn, 1) := by decide +kernel
theorem dL_law_464 : decode cL_law 464 = .ok (.aload_n 1, 1) := by decide +kernel
theorem dL_law_465 : decode cL_law 465 = .ok (.aload_n 0, 1) := by decide +kernel
theorem dL_law_466 : decode cL_law 466 = .ok (.iload_n 3, 1) := by decide +kernel
theorem dL_law_467 : decode cL_law 467 = .ok (.iconst 1, 1) := by decide +kernel
theorem dL_law_468 : decode cL_law 468 = .ok (.iadd, 1) := by decide +kernel
theorem dL_law_469 : decode cL_law 469 = .ok (.iaload, 1) := by decide +kernel
theorem dL_law_470 : decode cL_law 470 = .ok (.aload_n 0, 1) := by decide +kernel
theorem dL_law_471 : decode cL_law 471 = .ok (.iload_n 3, 1) := by decide +kernel
theorem dL_law_472 : decode cL_law 472 = .ok (.iconst 2, 1) := by decide +kernel
theorem dL_law_473 : decode cL_law 473 = .ok (.iadd, 1) := by decide +kernel
theorem dL_law_474 : decode cL_law 474 = .ok (.iaload, 1) := by decide +kernel
theorem dL_law_475 : decode cL_law 475 = .ok (.aload_n 0, 1) := by decide +kernel
theorem dL_law_476 : decode cL_law 476 = .ok (.iload_n 3, 1) := by decide +kernel
theorem dL_law_477 : decode cL_law 477 = .ok (.iconst 3, 1) := by decide +kernel
theorem dL_law_478 : decode cL_law 478 = .ok (.iadd, 1) := by decide +kernel
theorem dL_law_479 : decode cL_law 479 = .ok (.iaload, 1) := by decide +kernel
theorem dL_law_480 : decode cL_law 480 = .ok (.invokevirtual 65, 3) := by decide +kernel
theorem dL_law_483 : decode cL_law 483 = .ok (.aload_n 2, 1) := by decide +kernel
theorem dL_law_484 : decode cL_law 484 = .ok (.aload_n 0, 1) := by decide +kernel
theorem dL_law_485 : decode cL_law 485 = .ok (.iload_n 3, 1) := by decide +kernel
theorem dL_law_486 : decode cL_law 486 = .ok (.iconst 1, 1) := by decide +kernel
theorem dL_law_487 : decode cL_law 487 = .ok (.iadd, 1) := by decide +kernel
theorem dL_law_488 : decode cL_law 488 = .ok (.iaload, 1) := by decide +kernel
theorem dL_law_489 : decode cL_law 489 = .ok (.aload_n 0, 1) := by decide +kernel
theorem dL_law_490 : decode cL_law 490 = .ok (.iload_n 3, 1) := by decide +kernel
theorem dL_law_491 : decode cL_law 491 = .ok (.iconst 2, 1) := by decide +kernel
theorem dL_law_492 : decode cL_law 492 = .ok (.iadd, 1) := by decide +kernel
theorem dL_law_493 : decode cL_law 493 = .ok (.iaload, 1) := by decide +kernel
theorem dL_law_494 : decode cL_law 494 = .ok (.aload_n 0, 1) := by decide +kernel
theorem dL_law_495 : decode cL_law 495 = .ok (.iload_n 3, 1) := by decide +kernel
theorem dL_law_496 : decode cL_law 496 = .ok (.iconst 3, 1) := by decide +kernel
theorem dL_law_497 : decode cL_law 497 = .ok (.iadd, 1) := by decide +kernel
theorem dL_law_498 : decode cL_law 498 = .ok (.iaload, 1) := by decide +kernel
theorem dL_law_499 : decode cL_law 499 = .ok (.invokevirtual 69, 3) := by decide +kernel
theorem dL_law_502 : decode cL_law 502 = .ok (.if_icmp .eq 261, 3) := by decide +kernel
theorem dL_law_505 : decode cL_law 505 = .ok (.iconst 0, 1) := by decide +kernel
theorem dL_law_506 : decode cL_law 506 = .ok (.ireturn, 1) := by decide +kernel
theorem dL_law_507 : decode cL_law 507 = .ok (.aload_n 1, 1) := by decide +kernel
theorem dL_law_508 : decode cL_law 508 = .ok (.aload_n 0, 1) := by decide +kernel
theorem dL_law_509 : decode cL_law 509 = .ok (.iload_n 3, 1) := by decide +kernel
theorem dL_law_510 : decode cL_law 510 = .ok (.iconst 1, 1) := by decide +kernel
theorem dL_law_511 : decode cL_law 511 = .ok (.iadd, 1) := by decide +kernel
theorem dL_law_512 : decode cL_law 512 = .ok (.iaload, 1) := by decide +kernel
theorem dL_law_513 : decode cL_law 513 = .ok (.aload_n 0, 1) := by decide +kernel
theorem dL_law_514 : decode cL_law 514 = .ok (.iload_n 3, 1) := by decide +kernel
theorem dL_law_515 : decode cL_law 515 = .ok (.iconst 2, 1) := by decide +kernel
theorem dL_law_516 : decode cL_law 516 = .ok (.iadd, 1) := by decide +kernel
theorem dL_law_517 : decode cL_law 517 = .ok (.iaload, 1) := by decide +kernel
theorem dL_law_518 : decode cL_law 518 = .ok (.invokevirtual 70, 3) := by decide +kernel
theorem dL_law_521 : decode cL_law 521 = .ok (.aload_n 2, 1) := by decide +kernel
theorem dL_law_522 : decode cL_law 522 = .ok (.aload_n 0, 1) := by decide +kernel
theorem dL_law_523 : decode cL_law 523 = .ok (.iload_n 3, 1) := by decide +kernel
theorem dL_law_524 : decode cL_law 524 = .ok (.iconst 1, 1) := by decide +kernel
theorem dL_law_525 : decode cL_law 525 = .ok (.iadd, 1) := by decide +kernel
theorem dL_law_526 : decode cL_law 526 = .ok (.iaload, 1) := by decide +kernel
theorem dL_law_527 : decode cL_law 527 = .ok (.aload_n 0, 1) := by decide +kernel
theorem dL_law_528 : decode cL_law 528 = .ok (.iload_n 3, 1) := by decide +kernel
theorem dL_law_529 : decode cL_law 529 = .ok (.iconst 2, 1) := by decide +kernel
theorem dL_law_530 : decode cL_law 530 = .ok (.iadd, 1) := by decide +kernel
theorem dL_law_531 : decode cL_law 531 = .ok (.iaload, 1) := by decide +kernel
theorem dL_law_532 : decode cL_law 532 = .ok (.invokevirtual 73, 3) := by decide +kernel
theorem dL_law_535 : decode cL_law 535 = .ok (.if_icmp .eq 228, 3) := by decide +kernel
theorem dL_law_538 : decode cL_law 538 = .ok (.iconst 0, 1) := by decide +kernel
theorem dL_law_539 : decode cL_law 539 = .ok (.ireturn, 1) := by decide +kernel
theorem dL_law_540 : decode cL_law 540 = .ok (.aload_n 1, 1) := by decide +kernel
theorem dL_law_541 : decode cL_law 541 = .ok (.invokevirtual 74, 3) := by decide +kernel
theorem dL_law_544 : decode cL_law 544 = .ok (.aload_n 2, 1) := by decide +kernel
theorem dL_law_545 : decode cL_law 545 = .ok (.invokevirtual 77, 3) := by decide +kernel
theorem dL_law_548 : decode cL_law 548 = .ok (.if_icmp .eq 215, 3) := by decide +kernel
theorem dL_law_551 : decode cL_law 551 = .ok (.iconst 0, 1) := by decide +kernel
theorem dL_law_552 : decode cL_law 552 = .ok (.ireturn, 1) := by decide +kernel
theorem dL_law_553 : decode cL_law 553 = .ok (.aload_n 1, 1) := by decide +kernel
theorem dL_law_554 : decode cL_law 554 = .ok (.aload_n 0, 1) := by decide +kernel
theorem dL_law_555 : decode cL_law 555 = .ok (.iload_n 3, 1) := by decide +kernel
theorem dL_law_556 : decode cL_law 556 = .ok (.iconst 1, 1) := by decide +kernel
theorem dL_law_557 : decode cL_law 557 = .ok (.iadd, 1) := by decide +kernel
theorem dL_law_558 : decode cL_law 558 = .ok (.iaload, 1) := by decide +kernel
end
section
theorem dL_law_559 : decode cL_law 559 = .ok (.invokevirtual 78, 3) := by decide +kernel
theorem dL_law_562 : decode cL_law 562 = .ok (.aload_n 2, 1) := by decide +kernel
theorem dL_law_563 : decode cL_law 563 = .ok (.aload_n 0, 1) := by decide +kernel
theorem dL_law_564 : decode cL_law 564 = .ok (.iload_n 3, 1) := by decide +kernel
theorem dL_law_565 : decode cL_law 565 = .ok (.iconst 1, 1) := by decide +kernel
theorem dL_law_566 : decode cL_law 566 = .ok (.iadd, 1) := by decide +kernel
theorem dL_law_567 : decode cL_law 567 = .ok (.iaload, 1) := by decide +kernel
theorem dL_law_568 : decode cL_law 568 = .ok (.invokevirtual 81, 3) := by decide +kernel
theorem dL_law_571 : decode cL_law 571 = .ok (.if_icmp .eq 192, 3) := by decide +kernel
theorem dL_law_574 : decode cL_law 574 = .ok (.iconst 0, 1) := by decide +kernel
theorem dL_law_575 : decode cL_law 575 = .ok (.ireturn, 1) := by decide +kernel
theorem dL_law_576 : decode cL_law 576 = .ok (.aload_n 1, 1) := by decide +kernel
theorem dL_law_577 : decode cL_law 577 = .ok (.aload_n 0, 1) := by decide +kernel
theorem dL_law_578 : decode cL_law 578 = .ok (.iload_n 3, 1) := by decide +kernel
theorem dL_law_579 : decode cL_law 579 = .ok (.iconst 1, 1) := by decide +kernel
theorem dL_law_580 : decode cL_law 580 = .ok (.iadd, 1) := by decide +kernel
theorem dL_law_581 : decode cL_law 581 = .ok (.iaload, 1) := by decide +kernel
theorem dL_law_582 : decode cL_law 582 = .ok (.aload_n 0, 1) := by decide +kernel
theorem dL_law_583 : decode cL_law 583 = .ok (.iload_n 3, 1) := by decide +kernel
theorem dL_law_584 : decode cL_law 584 = .ok (.iconst 2, 1) := by decide +kernel
theorem dL_law_585 : decode cL_law 585 = .ok (.iadd, 1) := by decide +kernel
theorem dL_law_586 : decode cL_law 586 = .ok (.iaload, 1) := by decide +kernel
theorem dL_law_587 : decode cL_law 587 = .ok (.invokevirtual 82, 3) := by decide +kernel
theorem dL_law_590 : decode cL_law 590 = .ok (.aload_n 2, 1) := by decide +kernel
theorem dL_law_591 : decode cL_law 591 = .ok (.aload_n 0, 1) := by decide +kernel
theorem dL_law_592 : decode cL_law 592 = .ok (.iload_n 3, 1) := by decide +kernel
theorem dL_law_593 : decode cL_law 593 = .ok (.iconst 1, 1) := by decide +kernel
theorem dL_law_594 : decode cL_law 594 = .ok (.iadd, 1) := by decide +kernel
theorem dL_law_595 : decode cL_law 595 = .ok (.iaload, 1) := by decide +kernel
theorem dL_law_596 : decode cL_law 596 = .ok (.aload_n 0, 1) := by decide +kernel
theorem dL_law_597 : decode cL_law 597 = .ok (.iload_n 3, 1) := by decide +kernel
theorem dL_law_598 : decode cL_law 598 = .ok (.iconst 2, 1) := by decide +kernel
theorem dL_law_599 : decode cL_law 599 = .ok (.iadd, 1) := by decide +kernel
theorem dL_law_600 : decode cL_law 600 = .ok (.iaload, 1) := by decide +kernel
theorem dL_law_601 : decode cL_law 601 = .ok (.invokevirtual 85, 3) := by decide +kernel
theorem dL_law_604 : decode cL_law 604 = .ok (.if_icmp .eq 159, 3) := by decide +kernel
theorem dL_law_607 : decode cL_law 607 = .ok (.iconst 0, 1) := by decide +kernel
theorem dL_law_608 : decode cL_law 608 = .ok (.ireturn, 1) := by decide +kernel
theorem dL_law_609 : decode cL_law 609 = .ok (.aload_n 1, 1) := by decide +kernel
theorem dL_law_610 : decode cL_law 610 = .ok (.invokevirtual 86, 3) := by decide +kernel
theorem dL_law_613 : decode cL_law 613 = .ok (.aload_n 2, 1) := by decide +kernel
theorem dL_law_614 : decode cL_law 614 = .ok (.invokevirtual 89, 3) := by decide +kernel
theorem dL_law_617 : decode cL_law 617 = .ok (.if_icmp .eq 146, 3) := by decide +kernel
theorem dL_law_620 : decode cL_law 620 = .ok (.iconst 0, 1) := by decide +kernel
theorem dL_law_621 : decode cL_law 621 = .ok (.ireturn, 1) := by decide +kernel
theorem dL_law_622 : decode cL_law 622 = .ok (.aload_n 1, 1) := by decide +kernel
theorem dL_law_623 : decode cL_law 623 = .ok (.invokevirtual 90, 3) := by decide +kernel
theorem dL_law_626 : decode cL_law 626 = .ok (.aload_n 2, 1) := by decide +kernel
theorem dL_law_627 : decode cL_law 627 = .ok (.invokevirtual 93, 3) := by decide +kernel
theorem dL_law_630 : decode cL_law 630 = .ok (.if_icmp .eq 133, 3) := by decide +kernel
theorem dL_law_633 : decode cL_law 633 = .ok (.iconst 0, 1) := by decide +kernel
theorem dL_law_634 : decode cL_law 634 = .ok (.ireturn, 1) := by decide +kernel
theorem dL_law_635 : decode cL_law 635 = .ok (.aload_n 1, 1) := by decide +kernel
theorem dL_law_636 : decode cL_law 636 = .ok (.aload_n 0, 1) := by decide +kernel
theorem dL_law_637 : decode cL_law 637 = .ok (.iload_n 3, 1) := by decide +kernel
theorem dL_law_638 : decode cL_law 638 = .ok (.iconst 1, 1) := by decide +kernel
theorem dL_law_639 : decode cL_law 639 = .ok (.iadd, 1) := by decide +kernel
theorem dL_law_640 : decode cL_law 640 = .ok (.iaload, 1) := by decide +kernel
theorem dL_law_641 : decode cL_law 641 = .ok (.invokevirtual 94, 3) := by decide +kernel
theorem dL_law_644 : decode cL_law 644 = .ok (.aload_n 2, 1) := by decide +kernel
theorem dL_law_645 : decode cL_law 645 = .ok (.aload_n 0, 1) := by decide +kernel
theorem dL_law_646 : decode cL_law 646 = .ok (.iload_n 3, 1) := by decide +kernel
theorem dL_law_647 : decode cL_law 647 = .ok (.iconst 1, 1) := by decide +kernel
theorem dL_law_648 : decode cL_law 648 = .ok (.iadd, 1) := by decide +kernel
theorem dL_law_649 : decode cL_law 649 = .ok (.iaload, 1) := by decide +kernel
theorem dL_law_650 : decode cL_law 650 = .ok (.invokevirtual 97, 3) := by decide +kernel
theorem dL_law_653 : decode cL_law 653 = .ok (.if_icmp .eq 110, 3) := by decide +kernel
theorem dL_law_656 : decode cL_law 656 = .ok (.iconst 0, 1) := by decide +kernel
theorem dL_law_657 : decode cL_law 657 = .ok (.ireturn, 1) := by decide +kernel
theorem dL_law_658 : decode cL_law 658 = .ok (.aload_n 1, 1) := by decide +kernel
theorem dL_law_659 : decode cL_law 659 = .ok (.aload_n 0, 1) := by decide +kernel
theorem dL_law_660 : decode cL_law 660 = .ok (.iload_n 3, 1) := by decide +kernel
theorem dL_law_661 : decode cL_law 661 = .ok (.iconst 1, 1) := by decide +kernel
theorem dL_law_662 : decode cL_law 662 = .ok (.iadd, 1) := by decide +kernel
theorem dL_law_663 : decode cL_law 663 = .ok (.iaload, 1) := by decide +kernel
theorem dL_law_664 : decode cL_law 664 = .ok (.invokevirtual 98, 3) := by decide +kernel
theorem dL_law_667 : decode cL_law 667 = .ok (.aload_n 2, 1) := by decide +kernel
theorem dL_law_668 : decode cL_law 668 = .ok (.aload_n 0, 1) := by decide +kernel
theorem dL_law_669 : decode cL_law 669 = .ok (.iload_n 3, 1) := by decide +kernel
theorem dL_law_670 : decode cL_law 670 = .ok (.iconst 1, 1) := by decide +kernel
theorem dL_law_671 : decode cL_law 671 = .ok (.iadd, 1) := by decide +kernel
theorem dL_law_672 : decode cL_law 672 = .ok (.iaload, 1) := by decide +kernel
theorem dL_law_673 : decode cL_law 673 = .ok (.invokevirtual 101, 3) := by decide +kernel
theorem dL_law_676 : decode cL_law 676 = .ok (.if_icmp .eq 87, 3) := by decide +kernel
theorem dL_law_679 : decode cL_law 679 = .ok (.iconst 0, 1) := by decide +kernel
theorem dL_law_680 : decode cL_law 680 = .ok (.ireturn, 1) := by decide +kernel
theorem dL_law_681 : decode cL_law 681 = .ok (.aload_n 1, 1) := by decide +kernel
theorem dL_law_682 : decode cL_law 682 = .ok (.aload_n 0, 1) := by decide +kernel
theorem dL_law_683 : decode cL_law 683 = .ok (.iload_n 3, 1) := by decide +kernel
theorem dL_law_684 : decode cL_law 684 = .ok (.iconst 1, 1) := by decide +kernel
theorem dL_law_685 : decode cL_law 685 = .ok (.iadd, 1) := by decide +kernel
theorem dL_law_686 : decode cL_law 686 = .ok (.iaload, 1) := by decide +kernel
theorem dL_law_687 : decode cL_law 687 = .ok (.invokevirtual 102, 3) := by decide +kernel
theorem dL_law_690 : decode cL_law 690 = .ok (.aload_n 2, 1) := by decide +kernel
theorem dL_law_691 : decode cL_law 691 = .ok (.aload_n 0, 1) := by decide +kernel
theorem dL_law_692 : decode cL_law 692 = .ok (.iload_n 3, 1) := by decide +kernel
theorem dL_law_693 : decode cL_law 693 = .ok (.iconst 1, 1) := by decide +kernel
theorem dL_law_694 : decode cL_law 694 = .ok (.iadd, 1) := by decide +kernel
theorem dL_law_695 : decode cL_law 695 = .ok (.iaload, 1) := by decide +kernel
theorem dL_law_696 : decode cL_law 696 = .ok (.invokevirtual 105, 3) := by decide +kernel
theorem dL_law_699 : decode cL_law 699 = .ok (.if_icmp .eq 64, 3) := by decide +kernel
theorem dL_law_702 : decode cL_law 702 = .ok (.iconst 0, 1) := by decide +kernel
theorem dL_law_703 : decode cL_law 703 = .ok (.ireturn, 1) := by decide +kernel
theorem dL_law_704 : decode cL_law 704 = .ok (.aload_n 1, 1) := by decide +kernel
theorem dL_law_705 : decode cL_law 705 = .ok (.aload_n 0, 1) := by decide +kernel
theorem dL_law_706 : decode cL_law 706 = .ok (.iload_n 3, 1) := by decide +kernel
theorem dL_law_707 : decode cL_law 707 = .ok (.iconst 1, 1) := by decide +kernel
theorem dL_law_708 : decode cL_law 708 = .ok (.iadd, 1) := by decide +kernel
theorem dL_law_709 : decode cL_law 709 = .ok (.iaload, 1) := by decide +kernel
theorem dL_law_710 : decode cL_law 710 = .ok (.invokevirtual 106, 3) := by decide +kernel
theorem dL_law_713 : decode cL_law 713 = .ok (.aload_n 2, 1) := by decide +kernel
theorem dL_law_714 : decode cL_law 714 = .ok (.aload_n 0, 1) := by decide +kernel
theorem dL_law_715 : decode cL_law 715 = .ok (.iload_n 3, 1) := by decide +kernel
theorem dL_law_716 : decode cL_law 716 = .ok (.iconst 1, 1) := by decide +kernel
theorem dL_law_717 : decode cL_law 717 = .ok (.iadd, 1) := by decide +kernel
theorem dL_law_718 : decode cL_law 718 = .ok (.iaload, 1) := by decide +kernel
theorem dL_law_719 : decode cL_law 719 = .ok (.invokevirtual 109, 3) := by decide +kernel
theorem dL_law_722 : decode cL_law 722 = .ok (.if_icmp .eq 41, 3) := by decide +kernel
theorem dL_law_725 : decode cL_law 725 = .ok (.iconst 0, 1) := by decide +kernel
theorem dL_law_726 : decode cL_law 726 = .ok (.ireturn, 1) := by decide +kernel
theorem dL_law_727 : decode cL_law 727 = .ok (.aload_n 1, 1) := by decide +kernel
theorem dL_law_728 : decode cL_law 728 = .ok (.invokevirtual 110, 3) := by decide +kernel
theorem dL_law_731 : decode cL_law 731 = .ok (.aload_n 2, 1) := by decide +kernel
theorem dL_law_732 : decode cL_law 732 = .ok (.invokevirtual 113, 3) := by decide +kernel
theorem dL_law_735 : decode cL_law 735 = .ok (.if_icmp .eq 28, 3) := by decide +kernel
theorem dL_law_738 : decode cL_law 738 = .ok (.iconst 0, 1) := by decide +kernel
theorem dL_law_739 : decode cL_law 739 = .ok (.ireturn, 1) := by decide +kernel
theorem dL_law_740 : decode cL_law 740 = .ok (.aload_n 1, 1) := by decide +kernel
theorem dL_law_741 : decode cL_law 741 = .ok (.aload_n 0, 1) := by decide +kernel
theorem dL_law_742 : decode cL_law 742 = .ok (.iload_n 3, 1) := by decide +kernel
theorem dL_law_743 : decode cL_law 743 = .ok (.iconst 1, 1) := by decide +kernel
theorem dL_law_744 : decode cL_law 744 = .ok (.iadd, 1) := by decide +kernel
theorem dL_law_745 : decode cL_law 745 = .ok (.iaload, 1) := by decide +kernel
theorem dL_law_746 : decode cL_law 746 = .ok (.invokevirtual 114, 3) := by decide +kernel
theorem dL_law_749 : decode cL_law 749 = .ok (.aload_n 2, 1) := by decide +kernel
theorem dL_law_750 : decode cL_law 750 = .ok (.aload_n 0, 1) := by decide +kernel
theorem dL_law_751 : decode cL_law 751 = .ok (.iload_n 3, 1) := by decide +kernel
theorem dL_law_752 : decode cL_law 752 = .ok (.iconst 1, 1) := by decide +kernel
theorem dL_law_753 : decode cL_law 753 = .ok (.iadd, 1) := by decide +kernel
theorem dL_law_754 : decode cL_law 754 = .ok (.iaload, 1) := by decide +kernel
theorem dL_law_755 : decode cL_law 755 = .ok (.invokevirtual 117, 3) := by decide +kernel
theorem dL_law_758 : decode cL_law 758 = .ok (.if_icmp .eq 5, 3) := by decide +kernel
theorem dL_law_761 : decode cL_law 761 = .ok (.iconst 0, 1) := by decide +kernel
theorem dL_law_762 : decode cL_law 762 = .ok (.ireturn, 1) := by decide +kernel
theorem dL_law_763 : decode cL_law 763 = .ok (.iinc 3 6, 3) := by decide +kernel
theorem dL_law_766 : decode cL_law 766 = .ok (.goto (-748), 3) := by decide +kernel
theorem dL_law_769 : decode cL_law 769 = .ok (.iconst 1, 1) := by decide +kernel
theorem dL_law_770 : decode cL_law 770 = .ok (.ireturn, 1) := by decide +kernel
end
