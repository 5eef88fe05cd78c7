section
-- ===== PART A: goes FIRST, ahead of the names: the tables' words, and 'selects' of the private methods out of them =====
/-- a private method of a class that the tables say can be made, by its rows of tables_1 -/
def lw_okq (q : MethodName × Nat) : Prop := (q.1.cls ≠ "java/lang/invoke/MethodHandle" ∧ q.1.cls ≠ "java/lang/invoke/VarHandle") ∧ Cond.instantiable q.1.cls q.2 ∈ tables_1 ∧ Cond.privateMethod q.1 ∈ tables_1 ∧ Cond.instanceMethod q.1 ∈ tables_1
theorem lw_p0 : lw_okq (⟨"HelpedLog", "greatestHead", "()LHelpedLog$Node;"⟩, 5) := ⟨⟨by decide +kernel, by decide +kernel⟩, List.mem_of_getElem? (i := 22) (by decide +kernel), List.mem_of_getElem? (i := 240) (by decide +kernel), List.mem_of_getElem? (i := 241) (by decide +kernel)⟩
theorem lw_p1 : lw_okq (⟨"HelpedLog", "bringIdleHeadsTo", "(LHelpedLog$Node;)V"⟩, 5) := ⟨⟨by decide +kernel, by decide +kernel⟩, List.mem_of_getElem? (i := 22) (by decide +kernel), List.mem_of_getElem? (i := 244) (by decide +kernel), List.mem_of_getElem? (i := 245) (by decide +kernel)⟩
theorem lw_p2 : lw_okq (⟨"HelpedLog", "leastHeadNumber", "()I"⟩, 5) := ⟨⟨by decide +kernel, by decide +kernel⟩, List.mem_of_getElem? (i := 22) (by decide +kernel), List.mem_of_getElem? (i := 248) (by decide +kernel), List.mem_of_getElem? (i := 249) (by decide +kernel)⟩
theorem lw_p3 : lw_okq (⟨"HelpedLog", "releaseBelow", "(I)I"⟩, 5) := ⟨⟨by decide +kernel, by decide +kernel⟩, List.mem_of_getElem? (i := 22) (by decide +kernel), List.mem_of_getElem? (i := 252) (by decide +kernel), List.mem_of_getElem? (i := 253) (by decide +kernel)⟩
theorem lw_p4 : lw_okq (⟨"HelpedLog", "checkProcess", "(I)V"⟩, 5) := ⟨⟨by decide +kernel, by decide +kernel⟩, List.mem_of_getElem? (i := 22) (by decide +kernel), List.mem_of_getElem? (i := 269) (by decide +kernel), List.mem_of_getElem? (i := 270) (by decide +kernel)⟩
theorem lw_p5 : lw_okq (⟨"java/lang/Throwable", "fillInStackTrace", "(I)Ljava/lang/Throwable;"⟩, 6) := ⟨⟨by decide +kernel, by decide +kernel⟩, List.mem_of_getElem? (i := 312) (by decide +kernel), List.mem_of_getElem? (i := 310) (by decide +kernel), List.mem_of_getElem? (i := 311) (by decide +kernel)⟩
theorem lw_p6 : lw_okq (⟨"HelpedLog", "advance", "(LHelpedLog$Caller;)I"⟩, 5) := ⟨⟨by decide +kernel, by decide +kernel⟩, List.mem_of_getElem? (i := 22) (by decide +kernel), List.mem_of_getElem? (i := 384) (by decide +kernel), List.mem_of_getElem? (i := 385) (by decide +kernel)⟩
theorem lw_p7 : lw_okq (⟨"HelpedLog", "announce", "(LHelpedLog$Caller;)I"⟩, 5) := ⟨⟨by decide +kernel, by decide +kernel⟩, List.mem_of_getElem? (i := 22) (by decide +kernel), List.mem_of_getElem? (i := 388) (by decide +kernel), List.mem_of_getElem? (i := 389) (by decide +kernel)⟩
theorem lw_p8 : lw_okq (⟨"HelpedLog", "findFree", "()LHelpedLog$Node;"⟩, 5) := ⟨⟨by decide +kernel, by decide +kernel⟩, List.mem_of_getElem? (i := 22) (by decide +kernel), List.mem_of_getElem? (i := 392) (by decide +kernel), List.mem_of_getElem? (i := 393) (by decide +kernel)⟩
theorem lw_p9 : lw_okq (⟨"HelpedLog", "look", "(LHelpedLog$Caller;)V"⟩, 5) := ⟨⟨by decide +kernel, by decide +kernel⟩, List.mem_of_getElem? (i := 22) (by decide +kernel), List.mem_of_getElem? (i := 400) (by decide +kernel), List.mem_of_getElem? (i := 401) (by decide +kernel)⟩
theorem lw_p10 : lw_okq (⟨"HelpedLog", "choose", "(LHelpedLog$Caller;)V"⟩, 5) := ⟨⟨by decide +kernel, by decide +kernel⟩, List.mem_of_getElem? (i := 22) (by decide +kernel), List.mem_of_getElem? (i := 404) (by decide +kernel), List.mem_of_getElem? (i := 405) (by decide +kernel)⟩
theorem lw_p11 : lw_okq (⟨"HelpedLog", "propose", "(LHelpedLog$Caller;)V"⟩, 5) := ⟨⟨by decide +kernel, by decide +kernel⟩, List.mem_of_getElem? (i := 22) (by decide +kernel), List.mem_of_getElem? (i := 411) (by decide +kernel), List.mem_of_getElem? (i := 412) (by decide +kernel)⟩
theorem lw_p12 : lw_okq (⟨"HelpedLog", "giveNumber", "(LHelpedLog$Caller;)V"⟩, 5) := ⟨⟨by decide +kernel, by decide +kernel⟩, List.mem_of_getElem? (i := 22) (by decide +kernel), List.mem_of_getElem? (i := 415) (by decide +kernel), List.mem_of_getElem? (i := 416) (by decide +kernel)⟩
theorem lw_p13 : lw_okq (⟨"HelpedLog$Bank", "transfer", "(II)I"⟩, 2) := ⟨⟨by decide +kernel, by decide +kernel⟩, List.mem_of_getElem? (i := 96) (by decide +kernel), List.mem_of_getElem? (i := 425) (by decide +kernel), List.mem_of_getElem? (i := 426) (by decide +kernel)⟩
theorem lw_p14 : lw_okq (⟨"HelpedLog$Table", "sum", "()I"⟩, 2) := ⟨⟨by decide +kernel, by decide +kernel⟩, List.mem_of_getElem? (i := 87) (by decide +kernel), List.mem_of_getElem? (i := 449) (by decide +kernel), List.mem_of_getElem? (i := 450) (by decide +kernel)⟩
theorem lw_p15 : lw_okq (⟨"HelpedLog", "findOnLog", "(I)LHelpedLog$Node;"⟩, 5) := ⟨⟨by decide +kernel, by decide +kernel⟩, List.mem_of_getElem? (i := 22) (by decide +kernel), List.mem_of_getElem? (i := 498) (by decide +kernel), List.mem_of_getElem? (i := 499) (by decide +kernel)⟩
def lw_privs_1 : List (MethodName × Nat) := [(⟨"HelpedLog", "greatestHead", "()LHelpedLog$Node;"⟩, 5), (⟨"HelpedLog", "bringIdleHeadsTo", "(LHelpedLog$Node;)V"⟩, 5), (⟨"HelpedLog", "leastHeadNumber", "()I"⟩, 5), (⟨"HelpedLog", "releaseBelow", "(I)I"⟩, 5), (⟨"HelpedLog", "checkProcess", "(I)V"⟩, 5), (⟨"java/lang/Throwable", "fillInStackTrace", "(I)Ljava/lang/Throwable;"⟩, 6), (⟨"HelpedLog", "advance", "(LHelpedLog$Caller;)I"⟩, 5), (⟨"HelpedLog", "announce", "(LHelpedLog$Caller;)I"⟩, 5), (⟨"HelpedLog", "findFree", "()LHelpedLog$Node;"⟩, 5), (⟨"HelpedLog", "look", "(LHelpedLog$Caller;)V"⟩, 5), (⟨"HelpedLog", "choose", "(LHelpedLog$Caller;)V"⟩, 5), (⟨"HelpedLog", "propose", "(LHelpedLog$Caller;)V"⟩, 5), (⟨"HelpedLog", "giveNumber", "(LHelpedLog$Caller;)V"⟩, 5), (⟨"HelpedLog$Bank", "transfer", "(II)I"⟩, 2), (⟨"HelpedLog$Table", "sum", "()I"⟩, 2), (⟨"HelpedLog", "findOnLog", "(I)LHelpedLog$Node;"⟩, 5)]
theorem lw_r1 : ∀ q ∈ lw_privs_1, lw_okq q := List.forall_mem_cons.mpr ⟨lw_p0, List.forall_mem_cons.mpr ⟨lw_p1, List.forall_mem_cons.mpr ⟨lw_p2, List.forall_mem_cons.mpr ⟨lw_p3, List.forall_mem_cons.mpr ⟨lw_p4, List.forall_mem_cons.mpr ⟨lw_p5, List.forall_mem_cons.mpr ⟨lw_p6, List.forall_mem_cons.mpr ⟨lw_p7, List.forall_mem_cons.mpr ⟨lw_p8, List.forall_mem_cons.mpr ⟨lw_p9, List.forall_mem_cons.mpr ⟨lw_p10, List.forall_mem_cons.mpr ⟨lw_p11, List.forall_mem_cons.mpr ⟨lw_p12, List.forall_mem_cons.mpr ⟨lw_p13, List.forall_mem_cons.mpr ⟨lw_p14, List.forall_mem_cons.mpr ⟨lw_p15, fun _ h => absurd h List.not_mem_nil⟩⟩⟩⟩⟩⟩⟩⟩⟩⟩⟩⟩⟩⟩⟩⟩
theorem lw_p16 : lw_okq (⟨"HelpedLogModel", "begin", "()V"⟩, 31) := ⟨⟨by decide +kernel, by decide +kernel⟩, List.mem_of_getElem? (i := 563) (by decide +kernel), List.mem_of_getElem? (i := 569) (by decide +kernel), List.mem_of_getElem? (i := 570) (by decide +kernel)⟩
theorem lw_p17 : lw_okq (⟨"HelpedLogModel", "isProcess", "(I)Z"⟩, 31) := ⟨⟨by decide +kernel, by decide +kernel⟩, List.mem_of_getElem? (i := 563) (by decide +kernel), List.mem_of_getElem? (i := 676) (by decide +kernel), List.mem_of_getElem? (i := 677) (by decide +kernel)⟩
theorem lw_p18 : lw_okq (⟨"HelpedLogModel", "refused", "(I)Z"⟩, 31) := ⟨⟨by decide +kernel, by decide +kernel⟩, List.mem_of_getElem? (i := 563) (by decide +kernel), List.mem_of_getElem? (i := 680) (by decide +kernel), List.mem_of_getElem? (i := 681) (by decide +kernel)⟩
theorem lw_p19 : lw_okq (⟨"HelpedLogModel", "one", "(I)I"⟩, 31) := ⟨⟨by decide +kernel, by decide +kernel⟩, List.mem_of_getElem? (i := 563) (by decide +kernel), List.mem_of_getElem? (i := 688) (by decide +kernel), List.mem_of_getElem? (i := 689) (by decide +kernel)⟩
theorem lw_p20 : lw_okq (⟨"HelpedLogModel", "announce", "(I)I"⟩, 31) := ⟨⟨by decide +kernel, by decide +kernel⟩, List.mem_of_getElem? (i := 563) (by decide +kernel), List.mem_of_getElem? (i := 692) (by decide +kernel), List.mem_of_getElem? (i := 693) (by decide +kernel)⟩
theorem lw_p21 : lw_okq (⟨"HelpedLogModel", "look", "(I)V"⟩, 31) := ⟨⟨by decide +kernel, by decide +kernel⟩, List.mem_of_getElem? (i := 563) (by decide +kernel), List.mem_of_getElem? (i := 696) (by decide +kernel), List.mem_of_getElem? (i := 697) (by decide +kernel)⟩
theorem lw_p22 : lw_okq (⟨"HelpedLogModel", "choose", "(I)V"⟩, 31) := ⟨⟨by decide +kernel, by decide +kernel⟩, List.mem_of_getElem? (i := 563) (by decide +kernel), List.mem_of_getElem? (i := 700) (by decide +kernel), List.mem_of_getElem? (i := 701) (by decide +kernel)⟩
theorem lw_p23 : lw_okq (⟨"HelpedLogModel", "propose", "(I)V"⟩, 31) := ⟨⟨by decide +kernel, by decide +kernel⟩, List.mem_of_getElem? (i := 563) (by decide +kernel), List.mem_of_getElem? (i := 704) (by decide +kernel), List.mem_of_getElem? (i := 705) (by decide +kernel)⟩
theorem lw_p24 : lw_okq (⟨"HelpedLogModel", "give", "(I)V"⟩, 31) := ⟨⟨by decide +kernel, by decide +kernel⟩, List.mem_of_getElem? (i := 563) (by decide +kernel), List.mem_of_getElem? (i := 708) (by decide +kernel), List.mem_of_getElem? (i := 709) (by decide +kernel)⟩
theorem lw_p25 : lw_okq (⟨"HelpedLogModel", "finish", "(I)I"⟩, 31) := ⟨⟨by decide +kernel, by decide +kernel⟩, List.mem_of_getElem? (i := 563) (by decide +kernel), List.mem_of_getElem? (i := 712) (by decide +kernel), List.mem_of_getElem? (i := 713) (by decide +kernel)⟩
theorem lw_p26 : lw_okq (⟨"HelpedLogModel", "replay", "(I)I"⟩, 31) := ⟨⟨by decide +kernel, by decide +kernel⟩, List.mem_of_getElem? (i := 563) (by decide +kernel), List.mem_of_getElem? (i := 716) (by decide +kernel), List.mem_of_getElem? (i := 717) (by decide +kernel)⟩
theorem lw_p27 : lw_okq (⟨"HelpedLogModel", "act", "(III)I"⟩, 31) := ⟨⟨by decide +kernel, by decide +kernel⟩, List.mem_of_getElem? (i := 563) (by decide +kernel), List.mem_of_getElem? (i := 720) (by decide +kernel), List.mem_of_getElem? (i := 721) (by decide +kernel)⟩
theorem lw_p28 : lw_okq (⟨"HelpedLogModel", "queue", "(II)I"⟩, 31) := ⟨⟨by decide +kernel, by decide +kernel⟩, List.mem_of_getElem? (i := 563) (by decide +kernel), List.mem_of_getElem? (i := 724) (by decide +kernel), List.mem_of_getElem? (i := 725) (by decide +kernel)⟩
theorem lw_p29 : lw_okq (⟨"HelpedLogModel", "table", "(III)I"⟩, 31) := ⟨⟨by decide +kernel, by decide +kernel⟩, List.mem_of_getElem? (i := 563) (by decide +kernel), List.mem_of_getElem? (i := 728) (by decide +kernel), List.mem_of_getElem? (i := 729) (by decide +kernel)⟩
theorem lw_p30 : lw_okq (⟨"HelpedLogModel", "bank", "(III)I"⟩, 31) := ⟨⟨by decide +kernel, by decide +kernel⟩, List.mem_of_getElem? (i := 563) (by decide +kernel), List.mem_of_getElem? (i := 732) (by decide +kernel), List.mem_of_getElem? (i := 733) (by decide +kernel)⟩
theorem lw_p31 : lw_okq (⟨"HelpedLogModel", "leastInUse", "()I"⟩, 31) := ⟨⟨by decide +kernel, by decide +kernel⟩, List.mem_of_getElem? (i := 563) (by decide +kernel), List.mem_of_getElem? (i := 761) (by decide +kernel), List.mem_of_getElem? (i := 762) (by decide +kernel)⟩
def lw_privs_2 : List (MethodName × Nat) := [(⟨"HelpedLogModel", "begin", "()V"⟩, 31), (⟨"HelpedLogModel", "isProcess", "(I)Z"⟩, 31), (⟨"HelpedLogModel", "refused", "(I)Z"⟩, 31), (⟨"HelpedLogModel", "one", "(I)I"⟩, 31), (⟨"HelpedLogModel", "announce", "(I)I"⟩, 31), (⟨"HelpedLogModel", "look", "(I)V"⟩, 31), (⟨"HelpedLogModel", "choose", "(I)V"⟩, 31), (⟨"HelpedLogModel", "propose", "(I)V"⟩, 31), (⟨"HelpedLogModel", "give", "(I)V"⟩, 31), (⟨"HelpedLogModel", "finish", "(I)I"⟩, 31), (⟨"HelpedLogModel", "replay", "(I)I"⟩, 31), (⟨"HelpedLogModel", "act", "(III)I"⟩, 31), (⟨"HelpedLogModel", "queue", "(II)I"⟩, 31), (⟨"HelpedLogModel", "table", "(III)I"⟩, 31), (⟨"HelpedLogModel", "bank", "(III)I"⟩, 31), (⟨"HelpedLogModel", "leastInUse", "()I"⟩, 31)]
theorem lw_r2 : ∀ q ∈ lw_privs_2, lw_okq q := List.forall_mem_cons.mpr ⟨lw_p16, List.forall_mem_cons.mpr ⟨lw_p17, List.forall_mem_cons.mpr ⟨lw_p18, List.forall_mem_cons.mpr ⟨lw_p19, List.forall_mem_cons.mpr ⟨lw_p20, List.forall_mem_cons.mpr ⟨lw_p21, List.forall_mem_cons.mpr ⟨lw_p22, List.forall_mem_cons.mpr ⟨lw_p23, List.forall_mem_cons.mpr ⟨lw_p24, List.forall_mem_cons.mpr ⟨lw_p25, List.forall_mem_cons.mpr ⟨lw_p26, List.forall_mem_cons.mpr ⟨lw_p27, List.forall_mem_cons.mpr ⟨lw_p28, List.forall_mem_cons.mpr ⟨lw_p29, List.forall_mem_cons.mpr ⟨lw_p30, List.forall_mem_cons.mpr ⟨lw_p31, fun _ h => absurd h List.not_mem_nil⟩⟩⟩⟩⟩⟩⟩⟩⟩⟩⟩⟩⟩⟩⟩⟩
theorem lw_p32 : lw_okq (⟨"HelpedLogModel", "inUseCount", "()I"⟩, 31) := ⟨⟨by decide +kernel, by decide +kernel⟩, List.mem_of_getElem? (i := 563) (by decide +kernel), List.mem_of_getElem? (i := 781) (by decide +kernel), List.mem_of_getElem? (i := 782) (by decide +kernel)⟩
def lw_privs_3 : List (MethodName × Nat) := [(⟨"HelpedLogModel", "inUseCount", "()I"⟩, 31)]
theorem lw_r3 : ∀ q ∈ lw_privs_3, lw_okq q := List.forall_mem_cons.mpr ⟨lw_p32, fun _ h => absurd h List.not_mem_nil⟩
def lw_privs : List (MethodName × Nat) := lw_privs_1 ++ (lw_privs_2 ++ (lw_privs_3))
def lw_tbl : List Cond := k2_sels lw_privs ++ tables_1
theorem lw_privs_ok : ∀ q ∈ lw_privs, lw_okq q := by
  show ∀ q ∈ lw_privs_1 ++ (lw_privs_2 ++ (lw_privs_3)), lw_okq q
  exact List.forall_mem_append.mpr ⟨lw_r1, List.forall_mem_append.mpr ⟨lw_r2, lw_r3⟩⟩
end
section
section NAMES
/-! names: classes, fields, methods, the words of the tables (by a program, out of the claim) -/
abbrev rn_H : String := "HelpedLog"
abbrev rn_N : String := "HelpedLog$Node"
abbrev rn_C : String := "HelpedLog$Caller"
abbrev rn_P : String := "HelpedLog$Plain"
abbrev rn_G : String := "HelpedLog$Bag"
abbrev rn_Q : String := "HelpedLog$Queue"
abbrev rn_S : String := "HelpedLog$Stack"
abbrev rn_T : String := "HelpedLog$Table"
abbrev rn_B : String := "HelpedLog$Bank"
abbrev rn_M : String := "HelpedLogModel"
abbrev rn_L : String := "HelpedLogLaw"
abbrev rn_J : String := "java/lang/Math"
abbrev rn_A : String := "java/util/Arrays"
abbrev rn_O : String := "java/lang/Object"
abbrev rn_Y : String := "java/lang/System"
abbrev rn_W : String := "java/lang/Throwable"
abbrev rn_R : String := "java/lang/RuntimeException"
abbrev rn_E : String := "java/lang/Exception"
abbrev rn_I : String := "java/lang/IndexOutOfBoundsException"
abbrev rn_K : String := "java/lang/IllegalArgumentException"
abbrev rn_U : String := "java/lang/IllegalStateException"
abbrev rn_V : String := "java/util/NoSuchElementException"
abbrev rn_Z : String := "java/lang/String"
def ft_H : u_T := fun k => match k with
  | 0 => ("HelpedLog", "callers", "[LHelpedLog$Caller;", true)
  | 1 => ("HelpedLog", "pool", "[LHelpedLog$Node;", true)
  | 2 => ("HelpedLog", "logged", "LHelpedLog$Plain;", true)
  | 3 => ("HelpedLog", "spare", "LHelpedLog$Plain;", true)
  | _ => ("HelpedLog", "apart", "LHelpedLog$Plain;", true)
def ty_H : Nat → FieldType := fun k => match k with
  | 0 => .array (.object "HelpedLog$Caller")
  | 1 => .array (.object "HelpedLog$Node")
  | 2 => .object "HelpedLog$Plain"
  | 3 => .object "HelpedLog$Plain"
  | _ => .object "HelpedLog$Plain"
theorem nm_H : ∀ a, a < 5 → ∀ b, b < 5 → a ≠ b → (ft_H a).2.1 ≠ (ft_H b).2.1 := by decide +kernel
theorem tk_H : ∀ k, k < 5 → parseFieldDescriptor (ft_H k).2.2.1 = some (ty_H k) := by decide +kernel
def ft_N : u_T := fun k => match k with
  | 0 => ("HelpedLog$Node", "inUse", "Z", false)
  | 1 => ("HelpedLog$Node", "process", "I", false)
  | 2 => ("HelpedLog$Node", "operation", "I", false)
  | 3 => ("HelpedLog$Node", "a", "I", false)
  | 4 => ("HelpedLog$Node", "b", "I", false)
  | 5 => ("HelpedLog$Node", "number", "I", false)
  | 6 => ("HelpedLog$Node", "answer", "I", false)
  | _ => ("HelpedLog$Node", "cell", "LHelpedLog$Node;", false)
def ty_N : Nat → FieldType := fun k => match k with
  | 0 => .boolean
  | 1 => .int
  | 2 => .int
  | 3 => .int
  | 4 => .int
  | 5 => .int
  | 6 => .int
  | _ => .object "HelpedLog$Node"
theorem nm_N : ∀ a, a < 8 → ∀ b, b < 8 → a ≠ b → (ft_N a).2.1 ≠ (ft_N b).2.1 := by decide +kernel
theorem tk_N : ∀ k, k < 8 → parseFieldDescriptor (ft_N k).2.2.1 = some (ty_N k) := by decide +kernel
def ft_C : u_T := fun k => match k with
  | 0 => ("HelpedLog$Caller", "process", "I", true)
  | 1 => ("HelpedLog$Caller", "stage", "I", false)
  | 2 => ("HelpedLog$Caller", "operation", "I", false)
  | 3 => ("HelpedLog$Caller", "a", "I", false)
  | 4 => ("HelpedLog$Caller", "b", "I", false)
  | 5 => ("HelpedLog$Caller", "lookingAt", "I", false)
  | 6 => ("HelpedLog$Caller", "head", "LHelpedLog$Node;", false)
  | 7 => ("HelpedLog$Caller", "announced", "LHelpedLog$Node;", false)
  | 8 => ("HelpedLog$Caller", "own", "LHelpedLog$Node;", false)
  | 9 => ("HelpedLog$Caller", "best", "LHelpedLog$Node;", false)
  | 10 => ("HelpedLog$Caller", "proposal", "LHelpedLog$Node;", false)
  | 11 => ("HelpedLog$Caller", "doneCalls", "I", false)
  | 12 => ("HelpedLog$Caller", "latestAnswer", "I", false)
  | _ => ("HelpedLog$Caller", "latestPlace", "I", false)
def ty_C : Nat → FieldType := fun k => match k with
  | 0 => .int
  | 1 => .int
  | 2 => .int
  | 3 => .int
  | 4 => .int
  | 5 => .int
  | 6 => .object "HelpedLog$Node"
  | 7 => .object "HelpedLog$Node"
  | 8 => .object "HelpedLog$Node"
  | 9 => .object "HelpedLog$Node"
  | 10 => .object "HelpedLog$Node"
  | 11 => .int
  | 12 => .int
  | _ => .int
theorem nm_C : ∀ a, a < 14 → ∀ b, b < 14 → a ≠ b → (ft_C a).2.1 ≠ (ft_C b).2.1 := by decide +kernel
theorem tk_C : ∀ k, k < 14 → parseFieldDescriptor (ft_C k).2.2.1 = some (ty_C k) := by decide +kernel
def ft_Q : u_T := fun k => match k with
  | 0 => ("HelpedLog$Plain", "cells", "[I", true)
  | _ => ("HelpedLog$Plain", "count", "I", false)
def ty_Q : Nat → FieldType := fun k => match k with
  | 0 => .array .int
  | _ => .int
theorem nm_Q : ∀ a, a < 2 → ∀ b, b < 2 → a ≠ b → (ft_Q a).2.1 ≠ (ft_Q b).2.1 := by decide +kernel
theorem tk_Q : ∀ k, k < 2 → parseFieldDescriptor (ft_Q k).2.2.1 = some (ty_Q k) := by decide +kernel
def ft_S : u_T := fun k => match k with
  | 0 => ("HelpedLog$Plain", "cells", "[I", true)
  | _ => ("HelpedLog$Plain", "count", "I", false)
def ty_S : Nat → FieldType := fun k => match k with
  | 0 => .array .int
  | _ => .int
theorem nm_S : ∀ a, a < 2 → ∀ b, b < 2 → a ≠ b → (ft_S a).2.1 ≠ (ft_S b).2.1 := by decide +kernel
theorem tk_S : ∀ k, k < 2 → parseFieldDescriptor (ft_S k).2.2.1 = some (ty_S k) := by decide +kernel
def ft_T : u_T := fun k => match k with
  | 0 => ("HelpedLog$Plain", "cells", "[I", true)
  | _ => ("HelpedLog$Plain", "count", "I", false)
def ty_T : Nat → FieldType := fun k => match k with
  | 0 => .array .int
  | _ => .int
theorem nm_T : ∀ a, a < 2 → ∀ b, b < 2 → a ≠ b → (ft_T a).2.1 ≠ (ft_T b).2.1 := by decide +kernel
theorem tk_T : ∀ k, k < 2 → parseFieldDescriptor (ft_T k).2.2.1 = some (ty_T k) := by decide +kernel
def ft_B : u_T := fun k => match k with
  | 0 => ("HelpedLog$Plain", "cells", "[I", true)
  | _ => ("HelpedLog$Plain", "count", "I", false)
def ty_B : Nat → FieldType := fun k => match k with
  | 0 => .array .int
  | _ => .int
theorem nm_B : ∀ a, a < 2 → ∀ b, b < 2 → a ≠ b → (ft_B a).2.1 ≠ (ft_B b).2.1 := by decide +kernel
theorem tk_B : ∀ k, k < 2 → parseFieldDescriptor (ft_B k).2.2.1 = some (ty_B k) := by decide +kernel
def ft_M : u_T := fun k => match k with
  | 0 => ("HelpedLogModel", "fault", "I", false)
  | 1 => ("HelpedLogModel", "kind", "I", true)
  | 2 => ("HelpedLogModel", "n", "I", true)
  | 3 => ("HelpedLogModel", "inUse", "[Z", true)
  | 4 => ("HelpedLogModel", "number", "[I", true)
  | 5 => ("HelpedLogModel", "cell", "[I", true)
  | 6 => ("HelpedLogModel", "process", "[I", true)
  | 7 => ("HelpedLogModel", "does", "[I", true)
  | 8 => ("HelpedLogModel", "withA", "[I", true)
  | 9 => ("HelpedLogModel", "withB", "[I", true)
  | 10 => ("HelpedLogModel", "head", "[I", true)
  | 11 => ("HelpedLogModel", "announced", "[I", true)
  | 12 => ("HelpedLogModel", "stage", "[I", true)
  | 13 => ("HelpedLogModel", "looks", "[I", true)
  | 14 => ("HelpedLogModel", "own", "[I", true)
  | 15 => ("HelpedLogModel", "best", "[I", true)
  | 16 => ("HelpedLogModel", "proposal", "[I", true)
  | 17 => ("HelpedLogModel", "wants", "[I", true)
  | 18 => ("HelpedLogModel", "wantsA", "[I", true)
  | 19 => ("HelpedLogModel", "wantsB", "[I", true)
  | 20 => ("HelpedLogModel", "dones", "[I", true)
  | 21 => ("HelpedLogModel", "answers", "[I", true)
  | 22 => ("HelpedLogModel", "places", "[I", true)
  | 23 => ("HelpedLogModel", "end", "I", false)
  | 24 => ("HelpedLogModel", "callDoes", "[I", true)
  | 25 => ("HelpedLogModel", "callA", "[I", true)
  | 26 => ("HelpedLogModel", "callB", "[I", true)
  | 27 => ("HelpedLogModel", "thing", "[I", true)
  | 28 => ("HelpedLogModel", "size", "I", false)
  | 29 => ("HelpedLogModel", "mine", "[I", true)
  | _ => ("HelpedLogModel", "mySize", "I", false)
def ty_M : Nat → FieldType := fun k => match k with
  | 0 => .int
  | 1 => .int
  | 2 => .int
  | 3 => .array .boolean
  | 4 => .array .int
  | 5 => .array .int
  | 6 => .array .int
  | 7 => .array .int
  | 8 => .array .int
  | 9 => .array .int
  | 10 => .array .int
  | 11 => .array .int
  | 12 => .array .int
  | 13 => .array .int
  | 14 => .array .int
  | 15 => .array .int
  | 16 => .array .int
  | 17 => .array .int
  | 18 => .array .int
  | 19 => .array .int
  | 20 => .array .int
  | 21 => .array .int
  | 22 => .array .int
  | 23 => .int
  | 24 => .array .int
  | 25 => .array .int
  | 26 => .array .int
  | 27 => .array .int
  | 28 => .int
  | 29 => .array .int
  | _ => .int
theorem nm_M : ∀ a, a < 31 → ∀ b, b < 31 → a ≠ b → (ft_M a).2.1 ≠ (ft_M b).2.1 := by decide +kernel
theorem tk_M : ∀ k, k < 31 → parseFieldDescriptor (ft_M k).2.2.1 = some (ty_M k) := by decide +kernel
abbrev cl_ : List vw_C := [(rn_H, ft_H, 5), (rn_N, ft_N, 8), (rn_C, ft_C, 14), (rn_Q, ft_Q, 2), (rn_S, ft_S, 2), (rn_T, ft_T, 2), (rn_B, ft_B, 2), (rn_M, ft_M, 31)]
def yn_H_init : MethodName := ⟨"HelpedLog", "<init>", "(II)V"⟩
abbrev cd_H_init : ByteArray := prog_1_method_1_code
def yn_J_min : MethodName := ⟨"java/lang/Math", "min", "(II)I"⟩
abbrev cd_J_min : ByteArray := prog_16_method_69_code
def yn_J_max : MethodName := ⟨"java/lang/Math", "max", "(II)I"⟩
abbrev cd_J_max : ByteArray := prog_16_method_65_code
def yn_H_newPlain : MethodName := ⟨"HelpedLog", "newPlain", "(I)LHelpedLog$Plain;"⟩
abbrev cd_H_newPlain : ByteArray := prog_1_method_17_code
def yn_Q_init : MethodName := ⟨"HelpedLog$Queue", "<init>", "()V"⟩
abbrev cd_Q_init : ByteArray := prog_7_method_1_code
def yn_G_init : MethodName := ⟨"HelpedLog$Bag", "<init>", "()V"⟩
abbrev cd_G_init : ByteArray := prog_2_method_1_code
def yn_P_init : MethodName := ⟨"HelpedLog$Plain", "<init>", "(II)V"⟩
abbrev cd_P_init : ByteArray := prog_6_method_1_code
def yn_A_fill : MethodName := ⟨"java/util/Arrays", "fill", "([II)V"⟩
abbrev cd_A_fill : ByteArray := prog_21_method_103_code
def yn_S_init : MethodName := ⟨"HelpedLog$Stack", "<init>", "()V"⟩
abbrev cd_S_init : ByteArray := prog_8_method_1_code
def yn_T_init : MethodName := ⟨"HelpedLog$Table", "<init>", "()V"⟩
abbrev cd_T_init : ByteArray := prog_9_method_1_code
def yn_B_init : MethodName := ⟨"HelpedLog$Bank", "<init>", "()V"⟩
abbrev cd_B_init : ByteArray := prog_3_method_1_code
def yn_N_init : MethodName := ⟨"HelpedLog$Node", "<init>", "()V"⟩
abbrev cd_N_init : ByteArray := prog_5_method_1_code
def yn_C_init : MethodName := ⟨"HelpedLog$Caller", "<init>", "(ILHelpedLog$Node;)V"⟩
abbrev cd_C_init : ByteArray := prog_4_method_1_code
def yn_H_end : MethodName := ⟨"HelpedLog", "end", "()I"⟩
abbrev cd_H_end : ByteArray := prog_1_method_8_code
def yn_N_isOnLog : MethodName := ⟨"HelpedLog$Node", "isOnLog", "()Z"⟩
abbrev cd_N_isOnLog : ByteArray := prog_5_method_2_code
def yn_H_oldest : MethodName := ⟨"HelpedLog", "oldest", "()I"⟩
abbrev cd_H_oldest : ByteArray := prog_1_method_9_code
def yn_H_used : MethodName := ⟨"HelpedLog", "used", "()I"⟩
abbrev cd_H_used : ByteArray := prog_1_method_13_code
def yn_H_cut : MethodName := ⟨"HelpedLog", "cut", "()I"⟩
abbrev cd_H_cut : ByteArray := prog_1_method_14_code
def yn_H_greatestHead : MethodName := ⟨"HelpedLog", "greatestHead", "()LHelpedLog$Node;"⟩
abbrev cd_H_greatestHead : ByteArray := prog_1_method_30_code
def yn_H_bringIdleHeadsTo : MethodName := ⟨"HelpedLog", "bringIdleHeadsTo", "(LHelpedLog$Node;)V"⟩
abbrev cd_H_bringIdleHeadsTo : ByteArray := prog_1_method_31_code
def yn_H_leastHeadNumber : MethodName := ⟨"HelpedLog", "leastHeadNumber", "()I"⟩
abbrev cd_H_leastHeadNumber : ByteArray := prog_1_method_32_code
def yn_H_releaseBelow : MethodName := ⟨"HelpedLog", "releaseBelow", "(I)I"⟩
abbrev cd_H_releaseBelow : ByteArray := prog_1_method_33_code
def yn_L_cell : MethodName := ⟨"HelpedLogLaw", "cell", "([II)I"⟩
abbrev cd_L_cell : ByteArray := method_2_code
def yn_L_call : MethodName := ⟨"HelpedLogLaw", "call", "(LHelpedLog;IIII)I"⟩
abbrev cd_L_call : ByteArray := method_3_code
def yn_H_call : MethodName := ⟨"HelpedLog", "call", "(IIII)V"⟩
abbrev cd_H_call : ByteArray := prog_1_method_2_code
def yn_H_checkProcess : MethodName := ⟨"HelpedLog", "checkProcess", "(I)V"⟩
abbrev cd_H_checkProcess : ByteArray := prog_1_method_18_code
def yn_W_init0 : MethodName := ⟨"java/lang/Throwable", "<init>", "()V"⟩
abbrev cd_W_init0 : ByteArray := prog_20_method_1_code
def yn_I_init : MethodName := ⟨"java/lang/IndexOutOfBoundsException", "<init>", "(Ljava/lang/String;)V"⟩
abbrev cd_I_init : ByteArray := prog_15_method_2_code
def yn_R_init : MethodName := ⟨"java/lang/RuntimeException", "<init>", "(Ljava/lang/String;)V"⟩
abbrev cd_R_init : ByteArray := prog_17_method_2_code
def yn_E_init : MethodName := ⟨"java/lang/Exception", "<init>", "(Ljava/lang/String;)V"⟩
abbrev cd_E_init : ByteArray := prog_12_method_2_code
def yn_W_init1 : MethodName := ⟨"java/lang/Throwable", "<init>", "(Ljava/lang/String;)V"⟩
abbrev cd_W_init1 : ByteArray := prog_20_method_2_code
def yn_H_checkOperation : MethodName := ⟨"HelpedLog", "checkOperation", "(I)V"⟩
abbrev cd_H_checkOperation : ByteArray := prog_1_method_19_code
def yn_K_init : MethodName := ⟨"java/lang/IllegalArgumentException", "<init>", "(Ljava/lang/String;)V"⟩
abbrev cd_K_init : ByteArray := prog_13_method_2_code
def yn_U_init : MethodName := ⟨"java/lang/IllegalStateException", "<init>", "(Ljava/lang/String;)V"⟩
abbrev cd_U_init : ByteArray := prog_14_method_2_code
def yn_L_step : MethodName := ⟨"HelpedLogLaw", "step", "(LHelpedLog;I[J)I"⟩
abbrev cd_L_step : ByteArray := method_4_code
def yn_H_step : MethodName := ⟨"HelpedLog", "step", "(I)I"⟩
abbrev cd_H_step : ByteArray := prog_1_method_3_code
def yn_H_advance : MethodName := ⟨"HelpedLog", "advance", "(LHelpedLog$Caller;)I"⟩
abbrev cd_H_advance : ByteArray := prog_1_method_20_code
def yn_H_announce : MethodName := ⟨"HelpedLog", "announce", "(LHelpedLog$Caller;)I"⟩
abbrev cd_H_announce : ByteArray := prog_1_method_21_code
def yn_H_findFree : MethodName := ⟨"HelpedLog", "findFree", "()LHelpedLog$Node;"⟩
abbrev cd_H_findFree : ByteArray := prog_1_method_28_code
def yn_N_take : MethodName := ⟨"HelpedLog$Node", "take", "(LHelpedLog$Caller;)V"⟩
abbrev cd_N_take : ByteArray := prog_5_method_3_code
def yn_H_look : MethodName := ⟨"HelpedLog", "look", "(LHelpedLog$Caller;)V"⟩
abbrev cd_H_look : ByteArray := prog_1_method_22_code
def yn_H_choose : MethodName := ⟨"HelpedLog", "choose", "(LHelpedLog$Caller;)V"⟩
abbrev cd_H_choose : ByteArray := prog_1_method_23_code
def yn_J_floorMod : MethodName := ⟨"java/lang/Math", "floorMod", "(II)I"⟩
abbrev cd_J_floorMod : ByteArray := prog_16_method_50_code
def yn_H_propose : MethodName := ⟨"HelpedLog", "propose", "(LHelpedLog$Caller;)V"⟩
abbrev cd_H_propose : ByteArray := prog_1_method_24_code
def yn_H_giveNumber : MethodName := ⟨"HelpedLog", "giveNumber", "(LHelpedLog$Caller;)V"⟩
abbrev cd_H_giveNumber : ByteArray := prog_1_method_25_code
def yn_B_perform : MethodName := ⟨"HelpedLog$Bank", "perform", "(III)I"⟩
abbrev cd_B_perform : ByteArray := prog_3_method_2_code
def yn_B_transfer : MethodName := ⟨"HelpedLog$Bank", "transfer", "(II)I"⟩
abbrev cd_B_transfer : ByteArray := prog_3_method_3_code
def yn_G_perform : MethodName := ⟨"HelpedLog$Bag", "perform", "(III)I"⟩
abbrev cd_G_perform : ByteArray := prog_2_method_3_code
def yn_G_putIn : MethodName := ⟨"HelpedLog$Bag", "putIn", "(I)I"⟩
abbrev cd_G_putIn : ByteArray := prog_2_method_4_code
def yn_Q_takeOut : MethodName := ⟨"HelpedLog$Queue", "takeOut", "()I"⟩
abbrev cd_Q_takeOut : ByteArray := prog_7_method_2_code
def yn_S_takeOut : MethodName := ⟨"HelpedLog$Stack", "takeOut", "()I"⟩
abbrev cd_S_takeOut : ByteArray := prog_8_method_2_code
def yn_T_perform : MethodName := ⟨"HelpedLog$Table", "perform", "(III)I"⟩
abbrev cd_T_perform : ByteArray := prog_9_method_2_code
def yn_T_sum : MethodName := ⟨"HelpedLog$Table", "sum", "()I"⟩
abbrev cd_T_sum : ByteArray := prog_9_method_3_code
def yn_H_move : MethodName := ⟨"HelpedLog", "move", "(LHelpedLog$Caller;)V"⟩
abbrev cd_H_move : ByteArray := prog_1_method_26_code
def yn_H_finish : MethodName := ⟨"HelpedLog", "finish", "(LHelpedLog$Caller;)V"⟩
abbrev cd_H_finish : ByteArray := prog_1_method_27_code
def yn_L_run : MethodName := ⟨"HelpedLogLaw", "run", "(LHelpedLog;II[J)I"⟩
abbrev cd_L_run : ByteArray := method_5_code
def yn_H_run : MethodName := ⟨"HelpedLog", "run", "(II)I"⟩
abbrev cd_H_run : ByteArray := prog_1_method_4_code
def yn_L_done : MethodName := ⟨"HelpedLogLaw", "done", "(LHelpedLog;I[J)I"⟩
abbrev cd_L_done : ByteArray := method_6_code
def yn_H_done : MethodName := ⟨"HelpedLog", "done", "(I)I"⟩
abbrev cd_H_done : ByteArray := prog_1_method_5_code
def yn_L_answer : MethodName := ⟨"HelpedLogLaw", "answer", "(LHelpedLog;I[J)I"⟩
abbrev cd_L_answer : ByteArray := method_7_code
def yn_H_answer : MethodName := ⟨"HelpedLog", "answer", "(I)I"⟩
abbrev cd_H_answer : ByteArray := prog_1_method_6_code
def yn_L_placeOf : MethodName := ⟨"HelpedLogLaw", "placeOf", "(LHelpedLog;I[J)I"⟩
abbrev cd_L_placeOf : ByteArray := method_8_code
def yn_H_placeOf : MethodName := ⟨"HelpedLog", "placeOf", "(I)I"⟩
abbrev cd_H_placeOf : ByteArray := prog_1_method_7_code
def yn_L_node : MethodName := ⟨"HelpedLogLaw", "node", "(LHelpedLog;II[J)I"⟩
abbrev cd_L_node : ByteArray := method_9_code
def yn_H_node : MethodName := ⟨"HelpedLog", "node", "(II)I"⟩
abbrev cd_H_node : ByteArray := prog_1_method_10_code
def yn_H_findOnLog : MethodName := ⟨"HelpedLog", "findOnLog", "(I)LHelpedLog$Node;"⟩
abbrev cd_H_findOnLog : ByteArray := prog_1_method_29_code
def yn_V_init : MethodName := ⟨"java/util/NoSuchElementException", "<init>", "(Ljava/lang/String;)V"⟩
abbrev cd_V_init : ByteArray := prog_22_method_4_code
def yn_N_part : MethodName := ⟨"HelpedLog$Node", "part", "(I)I"⟩
abbrev cd_N_part : ByteArray := prog_5_method_4_code
def yn_L_stage : MethodName := ⟨"HelpedLogLaw", "stage", "(LHelpedLog;I[J)I"⟩
abbrev cd_L_stage : ByteArray := method_10_code
def yn_H_stage : MethodName := ⟨"HelpedLog", "stage", "(I)I"⟩
abbrev cd_H_stage : ByteArray := prog_1_method_11_code
def yn_L_head : MethodName := ⟨"HelpedLogLaw", "head", "(LHelpedLog;I[J)I"⟩
abbrev cd_L_head : ByteArray := method_11_code
def yn_H_head : MethodName := ⟨"HelpedLog", "head", "(I)I"⟩
abbrev cd_H_head : ByteArray := prog_1_method_12_code
def yn_L_peek : MethodName := ⟨"HelpedLogLaw", "peek", "(LHelpedLog;III[J)I"⟩
abbrev cd_L_peek : ByteArray := method_12_code
def yn_H_peek : MethodName := ⟨"HelpedLog", "peek", "(III)I"⟩
abbrev cd_H_peek : ByteArray := prog_1_method_15_code
def yn_P_copyFrom : MethodName := ⟨"HelpedLog$Plain", "copyFrom", "(LHelpedLog$Plain;)V"⟩
abbrev cd_P_copyFrom : ByteArray := prog_6_method_3_code
def yn_L_plain : MethodName := ⟨"HelpedLogLaw", "plain", "(LHelpedLog;III[J)I"⟩
abbrev cd_L_plain : ByteArray := method_13_code
def yn_H_plain : MethodName := ⟨"HelpedLog", "plain", "(III)I"⟩
abbrev cd_H_plain : ByteArray := prog_1_method_16_code
def yn_M_init : MethodName := ⟨"HelpedLogModel", "<init>", "(II)V"⟩
abbrev cd_M_init : ByteArray := prog_11_method_1_code
def yn_M_begin : MethodName := ⟨"HelpedLogModel", "begin", "()V"⟩
abbrev cd_M_begin : ByteArray := prog_11_method_5_code
def yn_M_thrown : MethodName := ⟨"HelpedLogModel", "thrown", "()I"⟩
abbrev cd_M_thrown : ByteArray := prog_11_method_2_code
def yn_M_call : MethodName := ⟨"HelpedLogModel", "call", "(IIII)V"⟩
abbrev cd_M_call : ByteArray := prog_11_method_11_code
def yn_M_isProcess : MethodName := ⟨"HelpedLogModel", "isProcess", "(I)Z"⟩
abbrev cd_M_isProcess : ByteArray := prog_11_method_4_code
def yn_M_refused : MethodName := ⟨"HelpedLogModel", "refused", "(I)Z"⟩
abbrev cd_M_refused : ByteArray := prog_11_method_3_code
def yn_M_step : MethodName := ⟨"HelpedLogModel", "step", "(I)I"⟩
abbrev cd_M_step : ByteArray := prog_11_method_19_code
def yn_M_one : MethodName := ⟨"HelpedLogModel", "one", "(I)I"⟩
abbrev cd_M_one : ByteArray := prog_11_method_18_code
def yn_M_announce : MethodName := ⟨"HelpedLogModel", "announce", "(I)I"⟩
abbrev cd_M_announce : ByteArray := prog_11_method_12_code
def yn_M_look : MethodName := ⟨"HelpedLogModel", "look", "(I)V"⟩
abbrev cd_M_look : ByteArray := prog_11_method_13_code
def yn_M_choose : MethodName := ⟨"HelpedLogModel", "choose", "(I)V"⟩
abbrev cd_M_choose : ByteArray := prog_11_method_14_code
def yn_M_propose : MethodName := ⟨"HelpedLogModel", "propose", "(I)V"⟩
abbrev cd_M_propose : ByteArray := prog_11_method_15_code
def yn_M_give : MethodName := ⟨"HelpedLogModel", "give", "(I)V"⟩
abbrev cd_M_give : ByteArray := prog_11_method_16_code
def yn_M_finish : MethodName := ⟨"HelpedLogModel", "finish", "(I)I"⟩
abbrev cd_M_finish : ByteArray := prog_11_method_17_code
def yn_M_replay : MethodName := ⟨"HelpedLogModel", "replay", "(I)I"⟩
abbrev cd_M_replay : ByteArray := prog_11_method_10_code
def yn_M_act : MethodName := ⟨"HelpedLogModel", "act", "(III)I"⟩
abbrev cd_M_act : ByteArray := prog_11_method_9_code
def yn_M_queue : MethodName := ⟨"HelpedLogModel", "queue", "(II)I"⟩
abbrev cd_M_queue : ByteArray := prog_11_method_6_code
def yn_M_table : MethodName := ⟨"HelpedLogModel", "table", "(III)I"⟩
abbrev cd_M_table : ByteArray := prog_11_method_7_code
def yn_M_bank : MethodName := ⟨"HelpedLogModel", "bank", "(III)I"⟩
abbrev cd_M_bank : ByteArray := prog_11_method_8_code
def yn_M_run : MethodName := ⟨"HelpedLogModel", "run", "(II)I"⟩
abbrev cd_M_run : ByteArray := prog_11_method_20_code
def yn_M_done : MethodName := ⟨"HelpedLogModel", "done", "(I)I"⟩
abbrev cd_M_done : ByteArray := prog_11_method_21_code
def yn_M_answer : MethodName := ⟨"HelpedLogModel", "answer", "(I)I"⟩
abbrev cd_M_answer : ByteArray := prog_11_method_22_code
def yn_M_placeOf : MethodName := ⟨"HelpedLogModel", "placeOf", "(I)I"⟩
abbrev cd_M_placeOf : ByteArray := prog_11_method_23_code
def yn_M_end : MethodName := ⟨"HelpedLogModel", "end", "()I"⟩
abbrev cd_M_end : ByteArray := prog_11_method_24_code
def yn_M_oldest : MethodName := ⟨"HelpedLogModel", "oldest", "()I"⟩
abbrev cd_M_oldest : ByteArray := prog_11_method_26_code
def yn_M_leastInUse : MethodName := ⟨"HelpedLogModel", "leastInUse", "()I"⟩
abbrev cd_M_leastInUse : ByteArray := prog_11_method_25_code
def yn_M_node : MethodName := ⟨"HelpedLogModel", "node", "(II)I"⟩
abbrev cd_M_node : ByteArray := prog_11_method_27_code
def yn_M_stage : MethodName := ⟨"HelpedLogModel", "stage", "(I)I"⟩
abbrev cd_M_stage : ByteArray := prog_11_method_28_code
def yn_M_head : MethodName := ⟨"HelpedLogModel", "head", "(I)I"⟩
abbrev cd_M_head : ByteArray := prog_11_method_29_code
def yn_M_used : MethodName := ⟨"HelpedLogModel", "used", "()I"⟩
abbrev cd_M_used : ByteArray := prog_11_method_31_code
def yn_M_inUseCount : MethodName := ⟨"HelpedLogModel", "inUseCount", "()I"⟩
abbrev cd_M_inUseCount : ByteArray := prog_11_method_30_code
def yn_M_cut : MethodName := ⟨"HelpedLogModel", "cut", "()I"⟩
abbrev cd_M_cut : ByteArray := prog_11_method_32_code
def yn_M_peek : MethodName := ⟨"HelpedLogModel", "peek", "(III)I"⟩
abbrev cd_M_peek : ByteArray := prog_11_method_33_code
def yn_M_plain : MethodName := ⟨"HelpedLogModel", "plain", "(III)I"⟩
abbrev cd_M_plain : ByteArray := prog_11_method_34_code
/-- the tables' good words: any method may lean on them -/
def TG_ : List Cond := lw_tbl.filter goodWord
theorem tg_i {w : Cond} (i : Nat) (h : tables_1[i]? = some w) (g : goodWord w = true) : w ∈ TG_ := List.mem_filter.mpr ⟨List.mem_append_right _ (List.mem_of_getElem? h), g⟩
theorem tg_s {w : Cond} (i : Nat) (h : (k2_sels lw_privs)[i]? = some w) (g : goodWord w = true) : w ∈ TG_ := List.mem_filter.mpr ⟨List.mem_append_left _ (List.mem_of_getElem? h), g⟩
theorem tg_good {a b : Cond} (ha : a ∈ TG_) : GoodIn (b :: TG_) (a :: TG_) := fun w hw => by
  have hm : w ∈ TG_ := (List.mem_cons.mp hw).elim (fun e => by rw [e]; exact ha) id
  exact ⟨List.mem_cons_of_mem _ hm, good_of_word (List.mem_filter.mp hm).2⟩
theorem ik_L : Cond.initialized "HelpedLogLaw" ∈ TG_ := tg_i 0 (by decide +kernel) (by decide +kernel)
theorem ik_H : Cond.initialized "HelpedLog" ∈ TG_ := tg_i 1 (by decide +kernel) (by decide +kernel)
theorem ik_J : Cond.initialized "java/lang/Math" ∈ TG_ := tg_i 2 (by decide +kernel) (by decide +kernel)
theorem ik_P : Cond.initialized "HelpedLog$Plain" ∈ TG_ := tg_i 3 (by decide +kernel) (by decide +kernel)
theorem ik_G : Cond.initialized "HelpedLog$Bag" ∈ TG_ := tg_i 4 (by decide +kernel) (by decide +kernel)
theorem ik_Q : Cond.initialized "HelpedLog$Queue" ∈ TG_ := tg_i 5 (by decide +kernel) (by decide +kernel)
theorem ik_A : Cond.initialized "java/util/Arrays" ∈ TG_ := tg_i 6 (by decide +kernel) (by decide +kernel)
theorem ik_S : Cond.initialized "HelpedLog$Stack" ∈ TG_ := tg_i 7 (by decide +kernel) (by decide +kernel)
theorem ik_T : Cond.initialized "HelpedLog$Table" ∈ TG_ := tg_i 8 (by decide +kernel) (by decide +kernel)
theorem ik_B : Cond.initialized "HelpedLog$Bank" ∈ TG_ := tg_i 9 (by decide +kernel) (by decide +kernel)
theorem ik_N : Cond.initialized "HelpedLog$Node" ∈ TG_ := tg_i 10 (by decide +kernel) (by decide +kernel)
theorem ik_C : Cond.initialized "HelpedLog$Caller" ∈ TG_ := tg_i 11 (by decide +kernel) (by decide +kernel)
theorem ik_M : Cond.initialized "HelpedLogModel" ∈ TG_ := tg_i 12 (by decide +kernel) (by decide +kernel)
theorem ik_W : Cond.initialized "java/lang/Throwable" ∈ TG_ := tg_i 13 (by decide +kernel) (by decide +kernel)
theorem ik_E : Cond.initialized "java/lang/Exception" ∈ TG_ := tg_i 14 (by decide +kernel) (by decide +kernel)
theorem ik_R : Cond.initialized "java/lang/RuntimeException" ∈ TG_ := tg_i 15 (by decide +kernel) (by decide +kernel)
theorem ik_I : Cond.initialized "java/lang/IndexOutOfBoundsException" ∈ TG_ := tg_i 16 (by decide +kernel) (by decide +kernel)
theorem ik_K : Cond.initialized "java/lang/IllegalArgumentException" ∈ TG_ := tg_i 17 (by decide +kernel) (by decide +kernel)
theorem ik_U : Cond.initialized "java/lang/IllegalStateException" ∈ TG_ := tg_i 18 (by decide +kernel) (by decide +kernel)
theorem ik_V : Cond.initialized "java/util/NoSuchElementException" ∈ TG_ := tg_i 19 (by decide +kernel) (by decide +kernel)
theorem ik_Y : Cond.initialized "java/lang/System" ∈ TG_ := tg_i 20 (by decide +kernel) (by decide +kernel)
theorem kl_L_8 : Cond.classLink "HelpedLogLaw" 8 "HelpedLog" ∈ TG_ := tg_i 21 (by decide +kernel) (by decide +kernel)
theorem nk_H : Cond.instantiable "HelpedLog" 5 ∈ TG_ := tg_i 22 (by decide +kernel) (by decide +kernel)
theorem ml_L_60 : Cond.methodLink "HelpedLogLaw" 60 yn_H_init ∈ TG_ := tg_i 23 (by decide +kernel) (by decide +kernel)
theorem im_H_init : Cond.instanceMethod yn_H_init ∈ TG_ := tg_i 24 (by decide +kernel) (by decide +kernel)
theorem co_H_init : Cond.code yn_H_init cd_H_init 7 none ∈ TG_ := tg_i 25 (by decide +kernel) (by decide +kernel)
theorem ml_H_1 : Cond.methodLink "HelpedLog" 1 objectInit ∈ TG_ := tg_i 26 (by decide +kernel) (by decide +kernel)
theorem im_objectInit : Cond.instanceMethod objectInit ∈ TG_ := tg_i 27 (by decide +kernel) (by decide +kernel)
theorem co_objectInit : Cond.code objectInit ⟨#[0xb1]⟩ 1 none ∈ TG_ := tg_i 28 (by decide +kernel) (by decide +kernel)
theorem ml_H_9 : Cond.methodLink "HelpedLog" 9 yn_J_min ∈ TG_ := tg_i 29 (by decide +kernel) (by decide +kernel)
theorem sm_J_min : Cond.static yn_J_min ∈ TG_ := tg_i 30 (by decide +kernel) (by decide +kernel)
theorem co_J_min : Cond.code yn_J_min cd_J_min 2 (some .int) ∈ TG_ := tg_i 31 (by decide +kernel) (by decide +kernel)
theorem ml_H_15 : Cond.methodLink "HelpedLog" 15 yn_J_max ∈ TG_ := tg_i 32 (by decide +kernel) (by decide +kernel)
theorem sm_J_max : Cond.static yn_J_max ∈ TG_ := tg_i 33 (by decide +kernel) (by decide +kernel)
theorem co_J_max : Cond.code yn_J_max cd_J_max 2 (some .int) ∈ TG_ := tg_i 34 (by decide +kernel) (by decide +kernel)
theorem ml_H_18 : Cond.methodLink "HelpedLog" 18 yn_H_newPlain ∈ TG_ := tg_i 35 (by decide +kernel) (by decide +kernel)
theorem sm_H_newPlain : Cond.static yn_H_newPlain ∈ TG_ := tg_i 36 (by decide +kernel) (by decide +kernel)
theorem co_H_newPlain : Cond.code yn_H_newPlain cd_H_newPlain 1 (some (.object "HelpedLog$Plain")) ∈ TG_ := tg_i 37 (by decide +kernel) (by decide +kernel)
theorem kl_H_154 : Cond.classLink "HelpedLog" 154 "HelpedLog$Queue" ∈ TG_ := tg_i 38 (by decide +kernel) (by decide +kernel)
theorem nk_Q : Cond.instantiable "HelpedLog$Queue" 2 ∈ TG_ := tg_i 39 (by decide +kernel) (by decide +kernel)
theorem im_Q_init : Cond.instanceMethod yn_Q_init ∈ TG_ := tg_i 41 (by decide +kernel) (by decide +kernel)
theorem co_Q_init : Cond.code yn_Q_init cd_Q_init 1 none ∈ TG_ := tg_i 42 (by decide +kernel) (by decide +kernel)
theorem ml_Q_1 : Cond.methodLink "HelpedLog$Queue" 1 yn_G_init ∈ TG_ := tg_i 43 (by decide +kernel) (by decide +kernel)
theorem im_G_init : Cond.instanceMethod yn_G_init ∈ TG_ := tg_i 44 (by decide +kernel) (by decide +kernel)
theorem co_G_init : Cond.code yn_G_init cd_G_init 1 none ∈ TG_ := tg_i 45 (by decide +kernel) (by decide +kernel)
theorem ml_G_1 : Cond.methodLink "HelpedLog$Bag" 1 yn_P_init ∈ TG_ := tg_i 46 (by decide +kernel) (by decide +kernel)
theorem im_P_init : Cond.instanceMethod yn_P_init ∈ TG_ := tg_i 47 (by decide +kernel) (by decide +kernel)
theorem co_P_init : Cond.code yn_P_init cd_P_init 3 none ∈ TG_ := tg_i 48 (by decide +kernel) (by decide +kernel)
theorem ml_P_1 : Cond.methodLink "HelpedLog$Plain" 1 objectInit ∈ TG_ := tg_i 49 (by decide +kernel) (by decide +kernel)
theorem ml_P_13 : Cond.methodLink "HelpedLog$Plain" 13 yn_A_fill ∈ TG_ := tg_i 50 (by decide +kernel) (by decide +kernel)
theorem sm_A_fill : Cond.static yn_A_fill ∈ TG_ := tg_i 51 (by decide +kernel) (by decide +kernel)
theorem co_A_fill : Cond.code yn_A_fill cd_A_fill 4 none ∈ TG_ := tg_i 52 (by decide +kernel) (by decide +kernel)
theorem fl_P_7 : Cond.fieldLink "HelpedLog$Plain" 7 "HelpedLog$Plain" "cells" "[I" ∈ TG_ := tg_i 53 (by decide +kernel) (by decide +kernel)
theorem fl_Q_7 : Cond.fieldLink "HelpedLog$Queue" 7 "HelpedLog$Queue" "cells" "[I" ∈ TG_ := tg_i 54 (by decide +kernel) (by decide +kernel)
theorem sf_Q_cells : Cond.sameField "HelpedLog$Queue" "HelpedLog$Plain" "cells" "[I" ∈ TG_ := tg_i 55 (by decide +kernel) (by decide +kernel)
theorem fl_S_13 : Cond.fieldLink "HelpedLog$Stack" 13 "HelpedLog$Stack" "cells" "[I" ∈ TG_ := tg_i 56 (by decide +kernel) (by decide +kernel)
theorem sf_S_cells : Cond.sameField "HelpedLog$Stack" "HelpedLog$Plain" "cells" "[I" ∈ TG_ := tg_i 57 (by decide +kernel) (by decide +kernel)
theorem fl_T_7 : Cond.fieldLink "HelpedLog$Table" 7 "HelpedLog$Table" "cells" "[I" ∈ TG_ := tg_i 58 (by decide +kernel) (by decide +kernel)
theorem sf_T_cells : Cond.sameField "HelpedLog$Table" "HelpedLog$Plain" "cells" "[I" ∈ TG_ := tg_i 59 (by decide +kernel) (by decide +kernel)
theorem fl_B_13 : Cond.fieldLink "HelpedLog$Bank" 13 "HelpedLog$Bank" "cells" "[I" ∈ TG_ := tg_i 60 (by decide +kernel) (by decide +kernel)
theorem sf_B_cells : Cond.sameField "HelpedLog$Bank" "HelpedLog$Plain" "cells" "[I" ∈ TG_ := tg_i 61 (by decide +kernel) (by decide +kernel)
theorem fl_G_21 : Cond.fieldLink "HelpedLog$Bag" 21 "HelpedLog$Bag" "cells" "[I" ∈ TG_ := tg_i 62 (by decide +kernel) (by decide +kernel)
theorem sf_G_cells : Cond.sameField "HelpedLog$Bag" "HelpedLog$Plain" "cells" "[I" ∈ TG_ := tg_i 63 (by decide +kernel) (by decide +kernel)
theorem fl_S_7 : Cond.fieldLink "HelpedLog$Stack" 7 "HelpedLog$Stack" "count" "I" ∈ TG_ := tg_i 64 (by decide +kernel) (by decide +kernel)
theorem sf_S_count : Cond.sameField "HelpedLog$Stack" "HelpedLog$Plain" "count" "I" ∈ TG_ := tg_i 65 (by decide +kernel) (by decide +kernel)
theorem fl_Q_13 : Cond.fieldLink "HelpedLog$Queue" 13 "HelpedLog$Queue" "count" "I" ∈ TG_ := tg_i 66 (by decide +kernel) (by decide +kernel)
theorem sf_Q_count : Cond.sameField "HelpedLog$Queue" "HelpedLog$Plain" "count" "I" ∈ TG_ := tg_i 67 (by decide +kernel) (by decide +kernel)
theorem fl_P_31 : Cond.fieldLink "HelpedLog$Plain" 31 "HelpedLog$Plain" "count" "I" ∈ TG_ := tg_i 68 (by decide +kernel) (by decide +kernel)
theorem fl_G_13 : Cond.fieldLink "HelpedLog$Bag" 13 "HelpedLog$Bag" "count" "I" ∈ TG_ := tg_i 69 (by decide +kernel) (by decide +kernel)
theorem sf_G_count : Cond.sameField "HelpedLog$Bag" "HelpedLog$Plain" "count" "I" ∈ TG_ := tg_i 70 (by decide +kernel) (by decide +kernel)
theorem ac_int : Cond.arrayClass .int ∈ TG_ := tg_i 76 (by decide +kernel) (by decide +kernel)
theorem kl_H_157 : Cond.classLink "HelpedLog" 157 "HelpedLog$Stack" ∈ TG_ := tg_i 77 (by decide +kernel) (by decide +kernel)
theorem nk_S : Cond.instantiable "HelpedLog$Stack" 2 ∈ TG_ := tg_i 78 (by decide +kernel) (by decide +kernel)
theorem im_S_init : Cond.instanceMethod yn_S_init ∈ TG_ := tg_i 80 (by decide +kernel) (by decide +kernel)
theorem co_S_init : Cond.code yn_S_init cd_S_init 1 none ∈ TG_ := tg_i 81 (by decide +kernel) (by decide +kernel)
theorem ml_S_1 : Cond.methodLink "HelpedLog$Stack" 1 yn_G_init ∈ TG_ := tg_i 82 (by decide +kernel) (by decide +kernel)
theorem kl_H_160 : Cond.classLink "HelpedLog" 160 "HelpedLog$Table" ∈ TG_ := tg_i 86 (by decide +kernel) (by decide +kernel)
theorem nk_T : Cond.instantiable "HelpedLog$Table" 2 ∈ TG_ := tg_i 87 (by decide +kernel) (by decide +kernel)
theorem ml_H_162 : Cond.methodLink "HelpedLog" 162 yn_T_init ∈ TG_ := tg_i 88 (by decide +kernel) (by decide +kernel)
theorem im_T_init : Cond.instanceMethod yn_T_init ∈ TG_ := tg_i 89 (by decide +kernel) (by decide +kernel)
theorem co_T_init : Cond.code yn_T_init cd_T_init 1 none ∈ TG_ := tg_i 90 (by decide +kernel) (by decide +kernel)
theorem ml_T_1 : Cond.methodLink "HelpedLog$Table" 1 yn_P_init ∈ TG_ := tg_i 91 (by decide +kernel) (by decide +kernel)
theorem kl_H_163 : Cond.classLink "HelpedLog" 163 "HelpedLog$Bank" ∈ TG_ := tg_i 95 (by decide +kernel) (by decide +kernel)
theorem nk_B : Cond.instantiable "HelpedLog$Bank" 2 ∈ TG_ := tg_i 96 (by decide +kernel) (by decide +kernel)
theorem ml_H_165 : Cond.methodLink "HelpedLog" 165 yn_B_init ∈ TG_ := tg_i 97 (by decide +kernel) (by decide +kernel)
theorem im_B_init : Cond.instanceMethod yn_B_init ∈ TG_ := tg_i 98 (by decide +kernel) (by decide +kernel)
theorem co_B_init : Cond.code yn_B_init cd_B_init 1 none ∈ TG_ := tg_i 99 (by decide +kernel) (by decide +kernel)
theorem ml_B_1 : Cond.methodLink "HelpedLog$Bank" 1 yn_P_init ∈ TG_ := tg_i 100 (by decide +kernel) (by decide +kernel)
theorem kl_H_32 : Cond.classLink "HelpedLog" 32 "HelpedLog$Node" ∈ TG_ := tg_i 104 (by decide +kernel) (by decide +kernel)
theorem nk_N : Cond.instantiable "HelpedLog$Node" 8 ∈ TG_ := tg_i 106 (by decide +kernel) (by decide +kernel)
theorem im_N_init : Cond.instanceMethod yn_N_init ∈ TG_ := tg_i 108 (by decide +kernel) (by decide +kernel)
theorem co_N_init : Cond.code yn_N_init cd_N_init 1 none ∈ TG_ := tg_i 109 (by decide +kernel) (by decide +kernel)
theorem ml_N_3 : Cond.methodLink "HelpedLog$Node" 3 objectInit ∈ TG_ := tg_i 110 (by decide +kernel) (by decide +kernel)
theorem fl_H_39 : Cond.fieldLink "HelpedLog" 39 "HelpedLog$Node" "inUse" "Z" ∈ TG_ := tg_i 111 (by decide +kernel) (by decide +kernel)
theorem fl_N_24 : Cond.fieldLink "HelpedLog$Node" 24 "HelpedLog$Node" "inUse" "Z" ∈ TG_ := tg_i 112 (by decide +kernel) (by decide +kernel)
theorem fl_N_9 : Cond.fieldLink "HelpedLog$Node" 9 "HelpedLog$Node" "process" "I" ∈ TG_ := tg_i 113 (by decide +kernel) (by decide +kernel)
theorem fl_N_15 : Cond.fieldLink "HelpedLog$Node" 15 "HelpedLog$Node" "operation" "I" ∈ TG_ := tg_i 114 (by decide +kernel) (by decide +kernel)
theorem fl_H_222 : Cond.fieldLink "HelpedLog" 222 "HelpedLog$Node" "operation" "I" ∈ TG_ := tg_i 115 (by decide +kernel) (by decide +kernel)
theorem fl_N_18 : Cond.fieldLink "HelpedLog$Node" 18 "HelpedLog$Node" "a" "I" ∈ TG_ := tg_i 116 (by decide +kernel) (by decide +kernel)
theorem fl_H_223 : Cond.fieldLink "HelpedLog" 223 "HelpedLog$Node" "a" "I" ∈ TG_ := tg_i 117 (by decide +kernel) (by decide +kernel)
theorem fl_N_21 : Cond.fieldLink "HelpedLog$Node" 21 "HelpedLog$Node" "b" "I" ∈ TG_ := tg_i 118 (by decide +kernel) (by decide +kernel)
theorem fl_H_224 : Cond.fieldLink "HelpedLog" 224 "HelpedLog$Node" "b" "I" ∈ TG_ := tg_i 119 (by decide +kernel) (by decide +kernel)
theorem fl_H_43 : Cond.fieldLink "HelpedLog" 43 "HelpedLog$Node" "number" "I" ∈ TG_ := tg_i 120 (by decide +kernel) (by decide +kernel)
theorem fl_N_28 : Cond.fieldLink "HelpedLog$Node" 28 "HelpedLog$Node" "number" "I" ∈ TG_ := tg_i 121 (by decide +kernel) (by decide +kernel)
theorem fl_H_225 : Cond.fieldLink "HelpedLog" 225 "HelpedLog$Node" "answer" "I" ∈ TG_ := tg_i 122 (by decide +kernel) (by decide +kernel)
theorem fl_N_37 : Cond.fieldLink "HelpedLog$Node" 37 "HelpedLog$Node" "cell" "LHelpedLog$Node;" ∈ TG_ := tg_i 123 (by decide +kernel) (by decide +kernel)
theorem fl_H_219 : Cond.fieldLink "HelpedLog" 219 "HelpedLog$Node" "cell" "LHelpedLog$Node;" ∈ TG_ := tg_i 124 (by decide +kernel) (by decide +kernel)
theorem kl_H_47 : Cond.classLink "HelpedLog" 47 "HelpedLog$Caller" ∈ TG_ := tg_i 142 (by decide +kernel) (by decide +kernel)
theorem nk_C : Cond.instantiable "HelpedLog$Caller" 14 ∈ TG_ := tg_i 144 (by decide +kernel) (by decide +kernel)
theorem ml_H_53 : Cond.methodLink "HelpedLog" 53 yn_C_init ∈ TG_ := tg_i 145 (by decide +kernel) (by decide +kernel)
theorem im_C_init : Cond.instanceMethod yn_C_init ∈ TG_ := tg_i 146 (by decide +kernel) (by decide +kernel)
theorem co_C_init : Cond.code yn_C_init cd_C_init 3 none ∈ TG_ := tg_i 147 (by decide +kernel) (by decide +kernel)
theorem ml_C_3 : Cond.methodLink "HelpedLog$Caller" 3 objectInit ∈ TG_ := tg_i 148 (by decide +kernel) (by decide +kernel)
theorem fl_C_18 : Cond.fieldLink "HelpedLog$Caller" 18 "HelpedLog$Caller" "process" "I" ∈ TG_ := tg_i 149 (by decide +kernel) (by decide +kernel)
theorem fl_N_31 : Cond.fieldLink "HelpedLog$Node" 31 "HelpedLog$Caller" "process" "I" ∈ TG_ := tg_i 150 (by decide +kernel) (by decide +kernel)
theorem fl_C_9 : Cond.fieldLink "HelpedLog$Caller" 9 "HelpedLog$Caller" "stage" "I" ∈ TG_ := tg_i 151 (by decide +kernel) (by decide +kernel)
theorem fl_H_63 : Cond.fieldLink "HelpedLog" 63 "HelpedLog$Caller" "stage" "I" ∈ TG_ := tg_i 152 (by decide +kernel) (by decide +kernel)
theorem fl_H_73 : Cond.fieldLink "HelpedLog" 73 "HelpedLog$Caller" "operation" "I" ∈ TG_ := tg_i 153 (by decide +kernel) (by decide +kernel)
theorem fl_N_34 : Cond.fieldLink "HelpedLog$Node" 34 "HelpedLog$Caller" "operation" "I" ∈ TG_ := tg_i 154 (by decide +kernel) (by decide +kernel)
theorem fl_H_76 : Cond.fieldLink "HelpedLog" 76 "HelpedLog$Caller" "a" "I" ∈ TG_ := tg_i 155 (by decide +kernel) (by decide +kernel)
theorem fl_N_35 : Cond.fieldLink "HelpedLog$Node" 35 "HelpedLog$Caller" "a" "I" ∈ TG_ := tg_i 156 (by decide +kernel) (by decide +kernel)
theorem fl_H_79 : Cond.fieldLink "HelpedLog" 79 "HelpedLog$Caller" "b" "I" ∈ TG_ := tg_i 157 (by decide +kernel) (by decide +kernel)
theorem fl_N_36 : Cond.fieldLink "HelpedLog$Node" 36 "HelpedLog$Caller" "b" "I" ∈ TG_ := tg_i 158 (by decide +kernel) (by decide +kernel)
theorem fl_H_210 : Cond.fieldLink "HelpedLog" 210 "HelpedLog$Caller" "lookingAt" "I" ∈ TG_ := tg_i 159 (by decide +kernel) (by decide +kernel)
theorem fl_C_21 : Cond.fieldLink "HelpedLog$Caller" 21 "HelpedLog$Caller" "head" "LHelpedLog$Node;" ∈ TG_ := tg_i 160 (by decide +kernel) (by decide +kernel)
theorem fl_H_126 : Cond.fieldLink "HelpedLog" 126 "HelpedLog$Caller" "head" "LHelpedLog$Node;" ∈ TG_ := tg_i 161 (by decide +kernel) (by decide +kernel)
theorem fl_H_204 : Cond.fieldLink "HelpedLog" 204 "HelpedLog$Caller" "announced" "LHelpedLog$Node;" ∈ TG_ := tg_i 162 (by decide +kernel) (by decide +kernel)
theorem fl_C_25 : Cond.fieldLink "HelpedLog$Caller" 25 "HelpedLog$Caller" "own" "LHelpedLog$Node;" ∈ TG_ := tg_i 163 (by decide +kernel) (by decide +kernel)
theorem fl_H_180 : Cond.fieldLink "HelpedLog" 180 "HelpedLog$Caller" "own" "LHelpedLog$Node;" ∈ TG_ := tg_i 164 (by decide +kernel) (by decide +kernel)
theorem fl_C_28 : Cond.fieldLink "HelpedLog$Caller" 28 "HelpedLog$Caller" "best" "LHelpedLog$Node;" ∈ TG_ := tg_i 165 (by decide +kernel) (by decide +kernel)
theorem fl_H_207 : Cond.fieldLink "HelpedLog" 207 "HelpedLog$Caller" "best" "LHelpedLog$Node;" ∈ TG_ := tg_i 166 (by decide +kernel) (by decide +kernel)
theorem fl_C_31 : Cond.fieldLink "HelpedLog$Caller" 31 "HelpedLog$Caller" "proposal" "LHelpedLog$Node;" ∈ TG_ := tg_i 167 (by decide +kernel) (by decide +kernel)
theorem fl_H_216 : Cond.fieldLink "HelpedLog" 216 "HelpedLog$Caller" "proposal" "LHelpedLog$Node;" ∈ TG_ := tg_i 168 (by decide +kernel) (by decide +kernel)
theorem fl_H_92 : Cond.fieldLink "HelpedLog" 92 "HelpedLog$Caller" "doneCalls" "I" ∈ TG_ := tg_i 169 (by decide +kernel) (by decide +kernel)
theorem fl_H_97 : Cond.fieldLink "HelpedLog" 97 "HelpedLog$Caller" "latestAnswer" "I" ∈ TG_ := tg_i 170 (by decide +kernel) (by decide +kernel)
theorem fl_C_15 : Cond.fieldLink "HelpedLog$Caller" 15 "HelpedLog$Caller" "latestPlace" "I" ∈ TG_ := tg_i 171 (by decide +kernel) (by decide +kernel)
theorem fl_H_100 : Cond.fieldLink "HelpedLog" 100 "HelpedLog$Caller" "latestPlace" "I" ∈ TG_ := tg_i 172 (by decide +kernel) (by decide +kernel)
theorem fl_H_49 : Cond.fieldLink "HelpedLog" 49 "HelpedLog" "callers" "[LHelpedLog$Caller;" ∈ TG_ := tg_i 202 (by decide +kernel) (by decide +kernel)
theorem fl_H_34 : Cond.fieldLink "HelpedLog" 34 "HelpedLog" "pool" "[LHelpedLog$Node;" ∈ TG_ := tg_i 203 (by decide +kernel) (by decide +kernel)
theorem fl_H_22 : Cond.fieldLink "HelpedLog" 22 "HelpedLog" "logged" "LHelpedLog$Plain;" ∈ TG_ := tg_i 204 (by decide +kernel) (by decide +kernel)
theorem fl_H_26 : Cond.fieldLink "HelpedLog" 26 "HelpedLog" "spare" "LHelpedLog$Plain;" ∈ TG_ := tg_i 205 (by decide +kernel) (by decide +kernel)
theorem fl_H_29 : Cond.fieldLink "HelpedLog" 29 "HelpedLog" "apart" "LHelpedLog$Plain;" ∈ TG_ := tg_i 206 (by decide +kernel) (by decide +kernel)
theorem ml_L_91 : Cond.methodLink "HelpedLogLaw" 91 yn_H_end ∈ TG_ := tg_i 218 (by decide +kernel) (by decide +kernel)
theorem im_H_end : Cond.instanceMethod yn_H_end ∈ TG_ := tg_i 219 (by decide +kernel) (by decide +kernel)
theorem sl_H_Hend : Cond.selects "HelpedLog" yn_H_end yn_H_end ∈ TG_ := tg_i 220 (by decide +kernel) (by decide +kernel)
theorem co_H_end : Cond.code yn_H_end cd_H_end 6 (some .int) ∈ TG_ := tg_i 221 (by decide +kernel) (by decide +kernel)
theorem ml_H_103 : Cond.methodLink "HelpedLog" 103 yn_N_isOnLog ∈ TG_ := tg_i 222 (by decide +kernel) (by decide +kernel)
theorem im_N_isOnLog : Cond.instanceMethod yn_N_isOnLog ∈ TG_ := tg_i 223 (by decide +kernel) (by decide +kernel)
theorem sl_N_NisOnLog : Cond.selects "HelpedLog$Node" yn_N_isOnLog yn_N_isOnLog ∈ TG_ := tg_i 224 (by decide +kernel) (by decide +kernel)
theorem co_N_isOnLog : Cond.code yn_N_isOnLog cd_N_isOnLog 1 (some .boolean) ∈ TG_ := tg_i 225 (by decide +kernel) (by decide +kernel)
theorem ml_L_95 : Cond.methodLink "HelpedLogLaw" 95 yn_H_oldest ∈ TG_ := tg_i 226 (by decide +kernel) (by decide +kernel)
theorem im_H_oldest : Cond.instanceMethod yn_H_oldest ∈ TG_ := tg_i 227 (by decide +kernel) (by decide +kernel)
theorem sl_H_Holdest : Cond.selects "HelpedLog" yn_H_oldest yn_H_oldest ∈ TG_ := tg_i 228 (by decide +kernel) (by decide +kernel)
theorem co_H_oldest : Cond.code yn_H_oldest cd_H_oldest 6 (some .int) ∈ TG_ := tg_i 229 (by decide +kernel) (by decide +kernel)
theorem ml_H_107 : Cond.methodLink "HelpedLog" 107 yn_H_end ∈ TG_ := tg_i 230 (by decide +kernel) (by decide +kernel)
theorem ml_L_108 : Cond.methodLink "HelpedLogLaw" 108 yn_H_used ∈ TG_ := tg_i 231 (by decide +kernel) (by decide +kernel)
theorem im_H_used : Cond.instanceMethod yn_H_used ∈ TG_ := tg_i 232 (by decide +kernel) (by decide +kernel)
theorem sl_H_Hused : Cond.selects "HelpedLog" yn_H_used yn_H_used ∈ TG_ := tg_i 233 (by decide +kernel) (by decide +kernel)
theorem co_H_used : Cond.code yn_H_used cd_H_used 6 (some .int) ∈ TG_ := tg_i 234 (by decide +kernel) (by decide +kernel)
theorem ml_L_112 : Cond.methodLink "HelpedLogLaw" 112 yn_H_cut ∈ TG_ := tg_i 235 (by decide +kernel) (by decide +kernel)
theorem im_H_cut : Cond.instanceMethod yn_H_cut ∈ TG_ := tg_i 236 (by decide +kernel) (by decide +kernel)
theorem sl_H_Hcut : Cond.selects "HelpedLog" yn_H_cut yn_H_cut ∈ TG_ := tg_i 237 (by decide +kernel) (by decide +kernel)
theorem co_H_cut : Cond.code yn_H_cut cd_H_cut 1 (some .int) ∈ TG_ := tg_i 238 (by decide +kernel) (by decide +kernel)
theorem ml_H_130 : Cond.methodLink "HelpedLog" 130 yn_H_greatestHead ∈ TG_ := tg_i 239 (by decide +kernel) (by decide +kernel)
theorem im_H_greatestHead : Cond.instanceMethod yn_H_greatestHead ∈ TG_ := tg_i 241 (by decide +kernel) (by decide +kernel)
theorem co_H_greatestHead : Cond.code yn_H_greatestHead cd_H_greatestHead 6 (some (.object "HelpedLog$Node")) ∈ TG_ := tg_i 242 (by decide +kernel) (by decide +kernel)
theorem ml_H_134 : Cond.methodLink "HelpedLog" 134 yn_H_bringIdleHeadsTo ∈ TG_ := tg_i 243 (by decide +kernel) (by decide +kernel)
theorem im_H_bringIdleHeadsTo : Cond.instanceMethod yn_H_bringIdleHeadsTo ∈ TG_ := tg_i 245 (by decide +kernel) (by decide +kernel)
theorem co_H_bringIdleHeadsTo : Cond.code yn_H_bringIdleHeadsTo cd_H_bringIdleHeadsTo 6 none ∈ TG_ := tg_i 246 (by decide +kernel) (by decide +kernel)
theorem ml_H_138 : Cond.methodLink "HelpedLog" 138 yn_H_leastHeadNumber ∈ TG_ := tg_i 247 (by decide +kernel) (by decide +kernel)
theorem im_H_leastHeadNumber : Cond.instanceMethod yn_H_leastHeadNumber ∈ TG_ := tg_i 249 (by decide +kernel) (by decide +kernel)
theorem co_H_leastHeadNumber : Cond.code yn_H_leastHeadNumber cd_H_leastHeadNumber 6 (some .int) ∈ TG_ := tg_i 250 (by decide +kernel) (by decide +kernel)
theorem ml_H_141 : Cond.methodLink "HelpedLog" 141 yn_H_releaseBelow ∈ TG_ := tg_i 251 (by decide +kernel) (by decide +kernel)
theorem im_H_releaseBelow : Cond.instanceMethod yn_H_releaseBelow ∈ TG_ := tg_i 253 (by decide +kernel) (by decide +kernel)
theorem co_H_releaseBelow : Cond.code yn_H_releaseBelow cd_H_releaseBelow 7 (some .int) ∈ TG_ := tg_i 254 (by decide +kernel) (by decide +kernel)
theorem ml_L_54 : Cond.methodLink "HelpedLogLaw" 54 yn_L_cell ∈ TG_ := tg_i 255 (by decide +kernel) (by decide +kernel)
theorem sm_L_cell : Cond.static yn_L_cell ∈ TG_ := tg_i 256 (by decide +kernel) (by decide +kernel)
theorem co_L_cell : Cond.code yn_L_cell cd_L_cell 2 (some .int) ∈ TG_ := tg_i 257 (by decide +kernel) (by decide +kernel)
theorem ml_L_66 : Cond.methodLink "HelpedLogLaw" 66 yn_L_call ∈ TG_ := tg_i 258 (by decide +kernel) (by decide +kernel)
theorem sm_L_call : Cond.static yn_L_call ∈ TG_ := tg_i 259 (by decide +kernel) (by decide +kernel)
theorem kl_L_13 : Cond.classLink "HelpedLogLaw" 13 "java/lang/IndexOutOfBoundsException" ∈ TG_ := tg_i 261 (by decide +kernel) (by decide +kernel)
theorem kl_L_15 : Cond.classLink "HelpedLogLaw" 15 "java/lang/IllegalArgumentException" ∈ TG_ := tg_i 262 (by decide +kernel) (by decide +kernel)
theorem kl_L_17 : Cond.classLink "HelpedLogLaw" 17 "java/lang/IllegalStateException" ∈ TG_ := tg_i 263 (by decide +kernel) (by decide +kernel)
theorem ml_L_7 : Cond.methodLink "HelpedLogLaw" 7 yn_H_call ∈ TG_ := tg_i 264 (by decide +kernel) (by decide +kernel)
theorem im_H_call : Cond.instanceMethod yn_H_call ∈ TG_ := tg_i 265 (by decide +kernel) (by decide +kernel)
theorem sl_H_Hcall : Cond.selects "HelpedLog" yn_H_call yn_H_call ∈ TG_ := tg_i 266 (by decide +kernel) (by decide +kernel)
theorem co_H_call : Cond.code yn_H_call cd_H_call 6 none ∈ TG_ := tg_i 267 (by decide +kernel) (by decide +kernel)
theorem ml_H_56 : Cond.methodLink "HelpedLog" 56 yn_H_checkProcess ∈ TG_ := tg_i 268 (by decide +kernel) (by decide +kernel)
theorem im_H_checkProcess : Cond.instanceMethod yn_H_checkProcess ∈ TG_ := tg_i 270 (by decide +kernel) (by decide +kernel)
theorem co_H_checkProcess : Cond.code yn_H_checkProcess cd_H_checkProcess 2 none ∈ TG_ := tg_i 271 (by decide +kernel) (by decide +kernel)
theorem kl_H_166 : Cond.classLink "HelpedLog" 166 "java/lang/IndexOutOfBoundsException" ∈ TG_ := tg_i 272 (by decide +kernel) (by decide +kernel)
theorem nk_I : Cond.instantiable "java/lang/IndexOutOfBoundsException" 6 ∈ TG_ := tg_i 273 (by decide +kernel) (by decide +kernel)
theorem fl_W_198 : Cond.fieldLink "java/lang/Throwable" 198 "java/lang/Throwable" "backtrace" "Ljava/lang/Object;" ∈ TG_ := tg_i 293 (by decide +kernel) (by decide +kernel)
theorem im_W_init0 : Cond.instanceMethod yn_W_init0 ∈ TG_ := tg_i 295 (by decide +kernel) (by decide +kernel)
theorem co_W_init0 : Cond.code yn_W_init0 cd_W_init0 1 none ∈ TG_ := tg_i 296 (by decide +kernel) (by decide +kernel)
theorem ml_W_1 : Cond.methodLink "java/lang/Throwable" 1 objectInit ∈ TG_ := tg_i 297 (by decide +kernel) (by decide +kernel)
theorem fl_W_13 : Cond.fieldLink "java/lang/Throwable" 13 "java/lang/Throwable" "UNASSIGNED_STACK" "[Ljava/lang/StackTraceElement;" ∈ TG_ := tg_i 298 (by decide +kernel) (by decide +kernel)
theorem fl_W_20 : Cond.fieldLink "java/lang/Throwable" 20 "java/lang/Throwable" "SUPPRESSED_SENTINEL" "Ljava/util/List;" ∈ TG_ := tg_i 300 (by decide +kernel) (by decide +kernel)
theorem ml_W_27 : Cond.methodLink "java/lang/Throwable" 27 ⟨"java/lang/Throwable", "fillInStackTrace", "()Ljava/lang/Throwable;"⟩ ∈ TG_ := tg_i 302 (by decide +kernel) (by decide +kernel)
theorem ml_W_202 : Cond.methodLink "java/lang/Throwable" 202 ⟨"java/lang/Throwable", "fillInStackTrace", "(I)Ljava/lang/Throwable;"⟩ ∈ TG_ := tg_i 309 (by decide +kernel) (by decide +kernel)
theorem nk_W : Cond.instantiable "java/lang/Throwable" 6 ∈ TG_ := tg_i 312 (by decide +kernel) (by decide +kernel)
theorem ml_H_170 : Cond.methodLink "HelpedLog" 170 yn_I_init ∈ TG_ := tg_i 315 (by decide +kernel) (by decide +kernel)
theorem im_I_init : Cond.instanceMethod yn_I_init ∈ TG_ := tg_i 316 (by decide +kernel) (by decide +kernel)
theorem co_I_init : Cond.code yn_I_init cd_I_init 2 none ∈ TG_ := tg_i 317 (by decide +kernel) (by decide +kernel)
theorem ml_I_7 : Cond.methodLink "java/lang/IndexOutOfBoundsException" 7 yn_R_init ∈ TG_ := tg_i 318 (by decide +kernel) (by decide +kernel)
theorem im_R_init : Cond.instanceMethod yn_R_init ∈ TG_ := tg_i 319 (by decide +kernel) (by decide +kernel)
theorem co_R_init : Cond.code yn_R_init cd_R_init 2 none ∈ TG_ := tg_i 320 (by decide +kernel) (by decide +kernel)
theorem ml_R_7 : Cond.methodLink "java/lang/RuntimeException" 7 yn_E_init ∈ TG_ := tg_i 321 (by decide +kernel) (by decide +kernel)
theorem im_E_init : Cond.instanceMethod yn_E_init ∈ TG_ := tg_i 322 (by decide +kernel) (by decide +kernel)
theorem co_E_init : Cond.code yn_E_init cd_E_init 2 none ∈ TG_ := tg_i 323 (by decide +kernel) (by decide +kernel)
theorem ml_E_7 : Cond.methodLink "java/lang/Exception" 7 yn_W_init1 ∈ TG_ := tg_i 324 (by decide +kernel) (by decide +kernel)
theorem im_W_init1 : Cond.instanceMethod yn_W_init1 ∈ TG_ := tg_i 325 (by decide +kernel) (by decide +kernel)
theorem co_W_init1 : Cond.code yn_W_init1 cd_W_init1 2 none ∈ TG_ := tg_i 326 (by decide +kernel) (by decide +kernel)
theorem fl_W_31 : Cond.fieldLink "java/lang/Throwable" 31 "java/lang/Throwable" "detailMessage" "Ljava/lang/String;" ∈ TG_ := tg_i 328 (by decide +kernel) (by decide +kernel)
theorem fl_W_7 : Cond.fieldLink "java/lang/Throwable" 7 "java/lang/Throwable" "cause" "Ljava/lang/Throwable;" ∈ TG_ := tg_i 329 (by decide +kernel) (by decide +kernel)
theorem fl_W_17 : Cond.fieldLink "java/lang/Throwable" 17 "java/lang/Throwable" "stackTrace" "[Ljava/lang/StackTraceElement;" ∈ TG_ := tg_i 330 (by decide +kernel) (by decide +kernel)
theorem fl_W_24 : Cond.fieldLink "java/lang/Throwable" 24 "java/lang/Throwable" "suppressedExceptions" "Ljava/util/List;" ∈ TG_ := tg_i 331 (by decide +kernel) (by decide +kernel)
theorem ac_byte : Cond.arrayClass .byte ∈ TG_ := tg_i 340 (by decide +kernel) (by decide +kernel)
theorem ml_H_60 : Cond.methodLink "HelpedLog" 60 yn_H_checkOperation ∈ TG_ := tg_i 341 (by decide +kernel) (by decide +kernel)
theorem sm_H_checkOperation : Cond.static yn_H_checkOperation ∈ TG_ := tg_i 342 (by decide +kernel) (by decide +kernel)
theorem co_H_checkOperation : Cond.code yn_H_checkOperation cd_H_checkOperation 1 none ∈ TG_ := tg_i 343 (by decide +kernel) (by decide +kernel)
theorem kl_H_86 : Cond.classLink "HelpedLog" 86 "java/lang/IllegalArgumentException" ∈ TG_ := tg_i 344 (by decide +kernel) (by decide +kernel)
theorem nk_K : Cond.instantiable "java/lang/IllegalArgumentException" 6 ∈ TG_ := tg_i 345 (by decide +kernel) (by decide +kernel)
theorem ml_H_90 : Cond.methodLink "HelpedLog" 90 yn_K_init ∈ TG_ := tg_i 354 (by decide +kernel) (by decide +kernel)
theorem im_K_init : Cond.instanceMethod yn_K_init ∈ TG_ := tg_i 355 (by decide +kernel) (by decide +kernel)
theorem co_K_init : Cond.code yn_K_init cd_K_init 2 none ∈ TG_ := tg_i 356 (by decide +kernel) (by decide +kernel)
theorem ml_K_7 : Cond.methodLink "java/lang/IllegalArgumentException" 7 yn_R_init ∈ TG_ := tg_i 357 (by decide +kernel) (by decide +kernel)
theorem kl_H_66 : Cond.classLink "HelpedLog" 66 "java/lang/IllegalStateException" ∈ TG_ := tg_i 360 (by decide +kernel) (by decide +kernel)
theorem nk_U : Cond.instantiable "java/lang/IllegalStateException" 6 ∈ TG_ := tg_i 361 (by decide +kernel) (by decide +kernel)
theorem ml_H_70 : Cond.methodLink "HelpedLog" 70 yn_U_init ∈ TG_ := tg_i 370 (by decide +kernel) (by decide +kernel)
theorem im_U_init : Cond.instanceMethod yn_U_init ∈ TG_ := tg_i 371 (by decide +kernel) (by decide +kernel)
theorem co_U_init : Cond.code yn_U_init cd_U_init 2 none ∈ TG_ := tg_i 372 (by decide +kernel) (by decide +kernel)
theorem ml_U_7 : Cond.methodLink "java/lang/IllegalStateException" 7 yn_R_init ∈ TG_ := tg_i 373 (by decide +kernel) (by decide +kernel)
theorem ml_L_74 : Cond.methodLink "HelpedLogLaw" 74 yn_L_step ∈ TG_ := tg_i 376 (by decide +kernel) (by decide +kernel)
theorem sm_L_step : Cond.static yn_L_step ∈ TG_ := tg_i 377 (by decide +kernel) (by decide +kernel)
theorem ml_L_19 : Cond.methodLink "HelpedLogLaw" 19 yn_H_step ∈ TG_ := tg_i 379 (by decide +kernel) (by decide +kernel)
theorem im_H_step : Cond.instanceMethod yn_H_step ∈ TG_ := tg_i 380 (by decide +kernel) (by decide +kernel)
theorem sl_H_Hstep : Cond.selects "HelpedLog" yn_H_step yn_H_step ∈ TG_ := tg_i 381 (by decide +kernel) (by decide +kernel)
theorem co_H_step : Cond.code yn_H_step cd_H_step 2 (some .int) ∈ TG_ := tg_i 382 (by decide +kernel) (by decide +kernel)
theorem ml_H_82 : Cond.methodLink "HelpedLog" 82 yn_H_advance ∈ TG_ := tg_i 383 (by decide +kernel) (by decide +kernel)
theorem im_H_advance : Cond.instanceMethod yn_H_advance ∈ TG_ := tg_i 385 (by decide +kernel) (by decide +kernel)
theorem co_H_advance : Cond.code yn_H_advance cd_H_advance 2 (some .int) ∈ TG_ := tg_i 386 (by decide +kernel) (by decide +kernel)
theorem ml_H_173 : Cond.methodLink "HelpedLog" 173 yn_H_announce ∈ TG_ := tg_i 387 (by decide +kernel) (by decide +kernel)
theorem im_H_announce : Cond.instanceMethod yn_H_announce ∈ TG_ := tg_i 389 (by decide +kernel) (by decide +kernel)
theorem co_H_announce : Cond.code yn_H_announce cd_H_announce 3 (some .int) ∈ TG_ := tg_i 390 (by decide +kernel) (by decide +kernel)
theorem ml_H_198 : Cond.methodLink "HelpedLog" 198 yn_H_findFree ∈ TG_ := tg_i 391 (by decide +kernel) (by decide +kernel)
theorem im_H_findFree : Cond.instanceMethod yn_H_findFree ∈ TG_ := tg_i 393 (by decide +kernel) (by decide +kernel)
theorem co_H_findFree : Cond.code yn_H_findFree cd_H_findFree 5 (some (.object "HelpedLog$Node")) ∈ TG_ := tg_i 394 (by decide +kernel) (by decide +kernel)
theorem ml_H_201 : Cond.methodLink "HelpedLog" 201 yn_N_take ∈ TG_ := tg_i 395 (by decide +kernel) (by decide +kernel)
theorem im_N_take : Cond.instanceMethod yn_N_take ∈ TG_ := tg_i 396 (by decide +kernel) (by decide +kernel)
theorem sl_N_Ntake : Cond.selects "HelpedLog$Node" yn_N_take yn_N_take ∈ TG_ := tg_i 397 (by decide +kernel) (by decide +kernel)
theorem co_N_take : Cond.code yn_N_take cd_N_take 2 none ∈ TG_ := tg_i 398 (by decide +kernel) (by decide +kernel)
theorem ml_H_176 : Cond.methodLink "HelpedLog" 176 yn_H_look ∈ TG_ := tg_i 399 (by decide +kernel) (by decide +kernel)
theorem im_H_look : Cond.instanceMethod yn_H_look ∈ TG_ := tg_i 401 (by decide +kernel) (by decide +kernel)
theorem co_H_look : Cond.code yn_H_look cd_H_look 3 none ∈ TG_ := tg_i 402 (by decide +kernel) (by decide +kernel)
theorem ml_H_183 : Cond.methodLink "HelpedLog" 183 yn_H_choose ∈ TG_ := tg_i 403 (by decide +kernel) (by decide +kernel)
theorem im_H_choose : Cond.instanceMethod yn_H_choose ∈ TG_ := tg_i 405 (by decide +kernel) (by decide +kernel)
theorem co_H_choose : Cond.code yn_H_choose cd_H_choose 4 none ∈ TG_ := tg_i 406 (by decide +kernel) (by decide +kernel)
theorem ml_H_213 : Cond.methodLink "HelpedLog" 213 yn_J_floorMod ∈ TG_ := tg_i 407 (by decide +kernel) (by decide +kernel)
theorem sm_J_floorMod : Cond.static yn_J_floorMod ∈ TG_ := tg_i 408 (by decide +kernel) (by decide +kernel)
theorem co_J_floorMod : Cond.code yn_J_floorMod cd_J_floorMod 3 (some .int) ∈ TG_ := tg_i 409 (by decide +kernel) (by decide +kernel)
theorem ml_H_186 : Cond.methodLink "HelpedLog" 186 yn_H_propose ∈ TG_ := tg_i 410 (by decide +kernel) (by decide +kernel)
theorem im_H_propose : Cond.instanceMethod yn_H_propose ∈ TG_ := tg_i 412 (by decide +kernel) (by decide +kernel)
theorem co_H_propose : Cond.code yn_H_propose cd_H_propose 2 none ∈ TG_ := tg_i 413 (by decide +kernel) (by decide +kernel)
theorem ml_H_189 : Cond.methodLink "HelpedLog" 189 yn_H_giveNumber ∈ TG_ := tg_i 414 (by decide +kernel) (by decide +kernel)
theorem im_H_giveNumber : Cond.instanceMethod yn_H_giveNumber ∈ TG_ := tg_i 416 (by decide +kernel) (by decide +kernel)
theorem co_H_giveNumber : Cond.code yn_H_giveNumber cd_H_giveNumber 3 none ∈ TG_ := tg_i 417 (by decide +kernel) (by decide +kernel)
theorem ml_H_150 : Cond.methodLink "HelpedLog" 150 ⟨"HelpedLog$Plain", "perform", "(III)I"⟩ ∈ TG_ := tg_i 418 (by decide +kernel) (by decide +kernel)
theorem sa_P_perform : Cond.sameMethod "HelpedLog$Plain" "HelpedLog$Plain" "perform" "(III)I" ∈ TG_ := tg_i 420 (by decide +kernel) (by decide +kernel)
theorem sl_B_Pperform : Cond.selects "HelpedLog$Bank" ⟨"HelpedLog$Plain", "perform", "(III)I"⟩ yn_B_perform ∈ TG_ := tg_i 421 (by decide +kernel) (by decide +kernel)
theorem im_B_perform : Cond.instanceMethod yn_B_perform ∈ TG_ := tg_i 422 (by decide +kernel) (by decide +kernel)
theorem co_B_perform : Cond.code yn_B_perform cd_B_perform 5 (some .int) ∈ TG_ := tg_i 423 (by decide +kernel) (by decide +kernel)
theorem ml_B_7 : Cond.methodLink "HelpedLog$Bank" 7 yn_B_transfer ∈ TG_ := tg_i 424 (by decide +kernel) (by decide +kernel)
theorem im_B_transfer : Cond.instanceMethod yn_B_transfer ∈ TG_ := tg_i 426 (by decide +kernel) (by decide +kernel)
theorem co_B_transfer : Cond.code yn_B_transfer cd_B_transfer 3 (some .int) ∈ TG_ := tg_i 427 (by decide +kernel) (by decide +kernel)
theorem sl_Q_Pperform : Cond.selects "HelpedLog$Queue" ⟨"HelpedLog$Plain", "perform", "(III)I"⟩ yn_G_perform ∈ TG_ := tg_i 428 (by decide +kernel) (by decide +kernel)
theorem im_G_perform : Cond.instanceMethod yn_G_perform ∈ TG_ := tg_i 429 (by decide +kernel) (by decide +kernel)
theorem co_G_perform : Cond.code yn_G_perform cd_G_perform 4 (some .int) ∈ TG_ := tg_i 430 (by decide +kernel) (by decide +kernel)
theorem ml_G_7 : Cond.methodLink "HelpedLog$Bag" 7 yn_G_putIn ∈ TG_ := tg_i 431 (by decide +kernel) (by decide +kernel)
theorem im_G_putIn : Cond.instanceMethod yn_G_putIn ∈ TG_ := tg_i 433 (by decide +kernel) (by decide +kernel)
theorem co_G_putIn : Cond.code yn_G_putIn cd_G_putIn 2 (some .int) ∈ TG_ := tg_i 434 (by decide +kernel) (by decide +kernel)
theorem ml_G_17 : Cond.methodLink "HelpedLog$Bag" 17 ⟨"HelpedLog$Bag", "takeOut", "()I"⟩ ∈ TG_ := tg_i 435 (by decide +kernel) (by decide +kernel)
theorem sa_G_takeOut : Cond.sameMethod "HelpedLog$Bag" "HelpedLog$Bag" "takeOut" "()I" ∈ TG_ := tg_i 437 (by decide +kernel) (by decide +kernel)
theorem sl_Q_GtakeOut : Cond.selects "HelpedLog$Queue" ⟨"HelpedLog$Bag", "takeOut", "()I"⟩ yn_Q_takeOut ∈ TG_ := tg_i 438 (by decide +kernel) (by decide +kernel)
theorem im_Q_takeOut : Cond.instanceMethod yn_Q_takeOut ∈ TG_ := tg_i 439 (by decide +kernel) (by decide +kernel)
theorem co_Q_takeOut : Cond.code yn_Q_takeOut cd_Q_takeOut 3 (some .int) ∈ TG_ := tg_i 440 (by decide +kernel) (by decide +kernel)
theorem sl_S_GtakeOut : Cond.selects "HelpedLog$Stack" ⟨"HelpedLog$Bag", "takeOut", "()I"⟩ yn_S_takeOut ∈ TG_ := tg_i 441 (by decide +kernel) (by decide +kernel)
theorem im_S_takeOut : Cond.instanceMethod yn_S_takeOut ∈ TG_ := tg_i 442 (by decide +kernel) (by decide +kernel)
theorem co_S_takeOut : Cond.code yn_S_takeOut cd_S_takeOut 1 (some .int) ∈ TG_ := tg_i 443 (by decide +kernel) (by decide +kernel)
theorem sl_S_Pperform : Cond.selects "HelpedLog$Stack" ⟨"HelpedLog$Plain", "perform", "(III)I"⟩ yn_G_perform ∈ TG_ := tg_i 444 (by decide +kernel) (by decide +kernel)
theorem sl_T_Pperform : Cond.selects "HelpedLog$Table" ⟨"HelpedLog$Plain", "perform", "(III)I"⟩ yn_T_perform ∈ TG_ := tg_i 445 (by decide +kernel) (by decide +kernel)
theorem im_T_perform : Cond.instanceMethod yn_T_perform ∈ TG_ := tg_i 446 (by decide +kernel) (by decide +kernel)
theorem co_T_perform : Cond.code yn_T_perform cd_T_perform 6 (some .int) ∈ TG_ := tg_i 447 (by decide +kernel) (by decide +kernel)
theorem ml_T_13 : Cond.methodLink "HelpedLog$Table" 13 yn_T_sum ∈ TG_ := tg_i 448 (by decide +kernel) (by decide +kernel)
theorem im_T_sum : Cond.instanceMethod yn_T_sum ∈ TG_ := tg_i 450 (by decide +kernel) (by decide +kernel)
theorem co_T_sum : Cond.code yn_T_sum cd_T_sum 6 (some .int) ∈ TG_ := tg_i 451 (by decide +kernel) (by decide +kernel)
theorem ml_H_192 : Cond.methodLink "HelpedLog" 192 yn_H_move ∈ TG_ := tg_i 452 (by decide +kernel) (by decide +kernel)
theorem sm_H_move : Cond.static yn_H_move ∈ TG_ := tg_i 453 (by decide +kernel) (by decide +kernel)
theorem co_H_move : Cond.code yn_H_move cd_H_move 1 none ∈ TG_ := tg_i 454 (by decide +kernel) (by decide +kernel)
theorem ml_H_195 : Cond.methodLink "HelpedLog" 195 yn_H_finish ∈ TG_ := tg_i 455 (by decide +kernel) (by decide +kernel)
theorem sm_H_finish : Cond.static yn_H_finish ∈ TG_ := tg_i 456 (by decide +kernel) (by decide +kernel)
theorem co_H_finish : Cond.code yn_H_finish cd_H_finish 1 none ∈ TG_ := tg_i 457 (by decide +kernel) (by decide +kernel)
theorem ml_L_78 : Cond.methodLink "HelpedLogLaw" 78 yn_L_run ∈ TG_ := tg_i 458 (by decide +kernel) (by decide +kernel)
theorem sm_L_run : Cond.static yn_L_run ∈ TG_ := tg_i 459 (by decide +kernel) (by decide +kernel)
theorem ml_L_23 : Cond.methodLink "HelpedLogLaw" 23 yn_H_run ∈ TG_ := tg_i 461 (by decide +kernel) (by decide +kernel)
theorem im_H_run : Cond.instanceMethod yn_H_run ∈ TG_ := tg_i 462 (by decide +kernel) (by decide +kernel)
theorem sl_H_Hrun : Cond.selects "HelpedLog" yn_H_run yn_H_run ∈ TG_ := tg_i 463 (by decide +kernel) (by decide +kernel)
theorem co_H_run : Cond.code yn_H_run cd_H_run 6 (some .int) ∈ TG_ := tg_i 464 (by decide +kernel) (by decide +kernel)
theorem kc_H_91 : Cond.constant "HelpedLog" 91 1103515245 ∈ TG_ := tg_i 466 (by decide +kernel) (by decide +kernel)
theorem ml_L_82 : Cond.methodLink "HelpedLogLaw" 82 yn_L_done ∈ TG_ := tg_i 467 (by decide +kernel) (by decide +kernel)
theorem sm_L_done : Cond.static yn_L_done ∈ TG_ := tg_i 468 (by decide +kernel) (by decide +kernel)
theorem ml_L_27 : Cond.methodLink "HelpedLogLaw" 27 yn_H_done ∈ TG_ := tg_i 470 (by decide +kernel) (by decide +kernel)
theorem im_H_done : Cond.instanceMethod yn_H_done ∈ TG_ := tg_i 471 (by decide +kernel) (by decide +kernel)
theorem sl_H_Hdone : Cond.selects "HelpedLog" yn_H_done yn_H_done ∈ TG_ := tg_i 472 (by decide +kernel) (by decide +kernel)
theorem co_H_done : Cond.code yn_H_done cd_H_done 2 (some .int) ∈ TG_ := tg_i 473 (by decide +kernel) (by decide +kernel)
theorem ml_L_85 : Cond.methodLink "HelpedLogLaw" 85 yn_L_answer ∈ TG_ := tg_i 474 (by decide +kernel) (by decide +kernel)
theorem sm_L_answer : Cond.static yn_L_answer ∈ TG_ := tg_i 475 (by decide +kernel) (by decide +kernel)
theorem ml_L_30 : Cond.methodLink "HelpedLogLaw" 30 yn_H_answer ∈ TG_ := tg_i 477 (by decide +kernel) (by decide +kernel)
theorem im_H_answer : Cond.instanceMethod yn_H_answer ∈ TG_ := tg_i 478 (by decide +kernel) (by decide +kernel)
theorem sl_H_Hanswer : Cond.selects "HelpedLog" yn_H_answer yn_H_answer ∈ TG_ := tg_i 479 (by decide +kernel) (by decide +kernel)
theorem co_H_answer : Cond.code yn_H_answer cd_H_answer 2 (some .int) ∈ TG_ := tg_i 480 (by decide +kernel) (by decide +kernel)
theorem ml_L_88 : Cond.methodLink "HelpedLogLaw" 88 yn_L_placeOf ∈ TG_ := tg_i 482 (by decide +kernel) (by decide +kernel)
theorem sm_L_placeOf : Cond.static yn_L_placeOf ∈ TG_ := tg_i 483 (by decide +kernel) (by decide +kernel)
theorem ml_L_33 : Cond.methodLink "HelpedLogLaw" 33 yn_H_placeOf ∈ TG_ := tg_i 485 (by decide +kernel) (by decide +kernel)
theorem im_H_placeOf : Cond.instanceMethod yn_H_placeOf ∈ TG_ := tg_i 486 (by decide +kernel) (by decide +kernel)
theorem sl_H_HplaceOf : Cond.selects "HelpedLog" yn_H_placeOf yn_H_placeOf ∈ TG_ := tg_i 487 (by decide +kernel) (by decide +kernel)
theorem co_H_placeOf : Cond.code yn_H_placeOf cd_H_placeOf 2 (some .int) ∈ TG_ := tg_i 488 (by decide +kernel) (by decide +kernel)
theorem ml_L_99 : Cond.methodLink "HelpedLogLaw" 99 yn_L_node ∈ TG_ := tg_i 489 (by decide +kernel) (by decide +kernel)
theorem sm_L_node : Cond.static yn_L_node ∈ TG_ := tg_i 490 (by decide +kernel) (by decide +kernel)
theorem kl_L_39 : Cond.classLink "HelpedLogLaw" 39 "java/util/NoSuchElementException" ∈ TG_ := tg_i 492 (by decide +kernel) (by decide +kernel)
theorem ml_L_36 : Cond.methodLink "HelpedLogLaw" 36 yn_H_node ∈ TG_ := tg_i 493 (by decide +kernel) (by decide +kernel)
theorem im_H_node : Cond.instanceMethod yn_H_node ∈ TG_ := tg_i 494 (by decide +kernel) (by decide +kernel)
theorem sl_H_Hnode : Cond.selects "HelpedLog" yn_H_node yn_H_node ∈ TG_ := tg_i 495 (by decide +kernel) (by decide +kernel)
theorem co_H_node : Cond.code yn_H_node cd_H_node 4 (some .int) ∈ TG_ := tg_i 496 (by decide +kernel) (by decide +kernel)
theorem ml_H_111 : Cond.methodLink "HelpedLog" 111 yn_H_findOnLog ∈ TG_ := tg_i 497 (by decide +kernel) (by decide +kernel)
theorem im_H_findOnLog : Cond.instanceMethod yn_H_findOnLog ∈ TG_ := tg_i 499 (by decide +kernel) (by decide +kernel)
theorem co_H_findOnLog : Cond.code yn_H_findOnLog cd_H_findOnLog 6 (some (.object "HelpedLog$Node")) ∈ TG_ := tg_i 500 (by decide +kernel) (by decide +kernel)
theorem kl_H_115 : Cond.classLink "HelpedLog" 115 "java/util/NoSuchElementException" ∈ TG_ := tg_i 501 (by decide +kernel) (by decide +kernel)
theorem nk_V : Cond.instantiable "java/util/NoSuchElementException" 6 ∈ TG_ := tg_i 502 (by decide +kernel) (by decide +kernel)
theorem ml_H_119 : Cond.methodLink "HelpedLog" 119 yn_V_init ∈ TG_ := tg_i 511 (by decide +kernel) (by decide +kernel)
theorem im_V_init : Cond.instanceMethod yn_V_init ∈ TG_ := tg_i 512 (by decide +kernel) (by decide +kernel)
theorem co_V_init : Cond.code yn_V_init cd_V_init 2 none ∈ TG_ := tg_i 513 (by decide +kernel) (by decide +kernel)
theorem ml_V_13 : Cond.methodLink "java/util/NoSuchElementException" 13 yn_R_init ∈ TG_ := tg_i 514 (by decide +kernel) (by decide +kernel)
theorem ml_H_122 : Cond.methodLink "HelpedLog" 122 yn_N_part ∈ TG_ := tg_i 518 (by decide +kernel) (by decide +kernel)
theorem im_N_part : Cond.instanceMethod yn_N_part ∈ TG_ := tg_i 519 (by decide +kernel) (by decide +kernel)
theorem sl_N_Npart : Cond.selects "HelpedLog$Node" yn_N_part yn_N_part ∈ TG_ := tg_i 520 (by decide +kernel) (by decide +kernel)
theorem co_N_part : Cond.code yn_N_part cd_N_part 2 (some .int) ∈ TG_ := tg_i 521 (by decide +kernel) (by decide +kernel)
theorem ml_L_102 : Cond.methodLink "HelpedLogLaw" 102 yn_L_stage ∈ TG_ := tg_i 522 (by decide +kernel) (by decide +kernel)
theorem sm_L_stage : Cond.static yn_L_stage ∈ TG_ := tg_i 523 (by decide +kernel) (by decide +kernel)
theorem ml_L_41 : Cond.methodLink "HelpedLogLaw" 41 yn_H_stage ∈ TG_ := tg_i 525 (by decide +kernel) (by decide +kernel)
theorem im_H_stage : Cond.instanceMethod yn_H_stage ∈ TG_ := tg_i 526 (by decide +kernel) (by decide +kernel)
theorem sl_H_Hstage : Cond.selects "HelpedLog" yn_H_stage yn_H_stage ∈ TG_ := tg_i 527 (by decide +kernel) (by decide +kernel)
theorem co_H_stage : Cond.code yn_H_stage cd_H_stage 2 (some .int) ∈ TG_ := tg_i 528 (by decide +kernel) (by decide +kernel)
theorem ml_L_105 : Cond.methodLink "HelpedLogLaw" 105 yn_L_head ∈ TG_ := tg_i 529 (by decide +kernel) (by decide +kernel)
theorem sm_L_head : Cond.static yn_L_head ∈ TG_ := tg_i 530 (by decide +kernel) (by decide +kernel)
theorem ml_L_44 : Cond.methodLink "HelpedLogLaw" 44 yn_H_head ∈ TG_ := tg_i 532 (by decide +kernel) (by decide +kernel)
theorem im_H_head : Cond.instanceMethod yn_H_head ∈ TG_ := tg_i 533 (by decide +kernel) (by decide +kernel)
theorem sl_H_Hhead : Cond.selects "HelpedLog" yn_H_head yn_H_head ∈ TG_ := tg_i 534 (by decide +kernel) (by decide +kernel)
theorem co_H_head : Cond.code yn_H_head cd_H_head 2 (some .int) ∈ TG_ := tg_i 535 (by decide +kernel) (by decide +kernel)
theorem ml_L_116 : Cond.methodLink "HelpedLogLaw" 116 yn_L_peek ∈ TG_ := tg_i 536 (by decide +kernel) (by decide +kernel)
theorem sm_L_peek : Cond.static yn_L_peek ∈ TG_ := tg_i 537 (by decide +kernel) (by decide +kernel)
theorem ml_L_47 : Cond.methodLink "HelpedLogLaw" 47 yn_H_peek ∈ TG_ := tg_i 539 (by decide +kernel) (by decide +kernel)
theorem im_H_peek : Cond.instanceMethod yn_H_peek ∈ TG_ := tg_i 540 (by decide +kernel) (by decide +kernel)
theorem sl_H_Hpeek : Cond.selects "HelpedLog" yn_H_peek yn_H_peek ∈ TG_ := tg_i 541 (by decide +kernel) (by decide +kernel)
theorem co_H_peek : Cond.code yn_H_peek cd_H_peek 4 (some .int) ∈ TG_ := tg_i 542 (by decide +kernel) (by decide +kernel)
theorem ml_H_144 : Cond.methodLink "HelpedLog" 144 yn_P_copyFrom ∈ TG_ := tg_i 543 (by decide +kernel) (by decide +kernel)
theorem im_P_copyFrom : Cond.instanceMethod yn_P_copyFrom ∈ TG_ := tg_i 544 (by decide +kernel) (by decide +kernel)
theorem sa_P_copyFrom : Cond.sameMethod "HelpedLog$Plain" "HelpedLog$Plain" "copyFrom" "(LHelpedLog$Plain;)V" ∈ TG_ := tg_i 545 (by decide +kernel) (by decide +kernel)
theorem sl_B_PcopyFrom : Cond.selects "HelpedLog$Bank" yn_P_copyFrom yn_P_copyFrom ∈ TG_ := tg_i 546 (by decide +kernel) (by decide +kernel)
theorem sl_Q_PcopyFrom : Cond.selects "HelpedLog$Queue" yn_P_copyFrom yn_P_copyFrom ∈ TG_ := tg_i 547 (by decide +kernel) (by decide +kernel)
theorem sl_S_PcopyFrom : Cond.selects "HelpedLog$Stack" yn_P_copyFrom yn_P_copyFrom ∈ TG_ := tg_i 548 (by decide +kernel) (by decide +kernel)
theorem sl_T_PcopyFrom : Cond.selects "HelpedLog$Table" yn_P_copyFrom yn_P_copyFrom ∈ TG_ := tg_i 549 (by decide +kernel) (by decide +kernel)
theorem co_P_copyFrom : Cond.code yn_P_copyFrom cd_P_copyFrom 2 none ∈ TG_ := tg_i 550 (by decide +kernel) (by decide +kernel)
theorem ml_P_19 : Cond.methodLink "HelpedLog$Plain" 19 yn_J_min ∈ TG_ := tg_i 551 (by decide +kernel) (by decide +kernel)
theorem ml_P_25 : Cond.methodLink "HelpedLog$Plain" 25 ⟨"java/lang/System", "arraycopy", "(Ljava/lang/Object;ILjava/lang/Object;II)V"⟩ ∈ TG_ := tg_i 552 (by decide +kernel) (by decide +kernel)
theorem ml_L_120 : Cond.methodLink "HelpedLogLaw" 120 yn_L_plain ∈ TG_ := tg_i 555 (by decide +kernel) (by decide +kernel)
theorem sm_L_plain : Cond.static yn_L_plain ∈ TG_ := tg_i 556 (by decide +kernel) (by decide +kernel)
theorem ml_L_51 : Cond.methodLink "HelpedLogLaw" 51 yn_H_plain ∈ TG_ := tg_i 558 (by decide +kernel) (by decide +kernel)
theorem im_H_plain : Cond.instanceMethod yn_H_plain ∈ TG_ := tg_i 559 (by decide +kernel) (by decide +kernel)
theorem sl_H_Hplain : Cond.selects "HelpedLog" yn_H_plain yn_H_plain ∈ TG_ := tg_i 560 (by decide +kernel) (by decide +kernel)
theorem co_H_plain : Cond.code yn_H_plain cd_H_plain 4 (some .int) ∈ TG_ := tg_i 561 (by decide +kernel) (by decide +kernel)
theorem kl_L_63 : Cond.classLink "HelpedLogLaw" 63 "HelpedLogModel" ∈ TG_ := tg_i 562 (by decide +kernel) (by decide +kernel)
theorem nk_M : Cond.instantiable "HelpedLogModel" 31 ∈ TG_ := tg_i 563 (by decide +kernel) (by decide +kernel)
theorem ml_L_65 : Cond.methodLink "HelpedLogLaw" 65 yn_M_init ∈ TG_ := tg_i 564 (by decide +kernel) (by decide +kernel)
theorem im_M_init : Cond.instanceMethod yn_M_init ∈ TG_ := tg_i 565 (by decide +kernel) (by decide +kernel)
theorem co_M_init : Cond.code yn_M_init cd_M_init 4 none ∈ TG_ := tg_i 566 (by decide +kernel) (by decide +kernel)
theorem ml_M_1 : Cond.methodLink "HelpedLogModel" 1 objectInit ∈ TG_ := tg_i 567 (by decide +kernel) (by decide +kernel)
theorem ml_M_96 : Cond.methodLink "HelpedLogModel" 96 yn_M_begin ∈ TG_ := tg_i 568 (by decide +kernel) (by decide +kernel)
theorem im_M_begin : Cond.instanceMethod yn_M_begin ∈ TG_ := tg_i 570 (by decide +kernel) (by decide +kernel)
theorem co_M_begin : Cond.code yn_M_begin cd_M_begin 2 none ∈ TG_ := tg_i 571 (by decide +kernel) (by decide +kernel)
theorem fl_M_99 : Cond.fieldLink "HelpedLogModel" 99 "HelpedLogModel" "fault" "I" ∈ TG_ := tg_i 572 (by decide +kernel) (by decide +kernel)
theorem fl_M_86 : Cond.fieldLink "HelpedLogModel" 86 "HelpedLogModel" "kind" "I" ∈ TG_ := tg_i 573 (by decide +kernel) (by decide +kernel)
theorem fl_M_90 : Cond.fieldLink "HelpedLogModel" 90 "HelpedLogModel" "n" "I" ∈ TG_ := tg_i 574 (by decide +kernel) (by decide +kernel)
theorem fl_M_7 : Cond.fieldLink "HelpedLogModel" 7 "HelpedLogModel" "inUse" "[Z" ∈ TG_ := tg_i 575 (by decide +kernel) (by decide +kernel)
theorem fl_M_13 : Cond.fieldLink "HelpedLogModel" 13 "HelpedLogModel" "number" "[I" ∈ TG_ := tg_i 576 (by decide +kernel) (by decide +kernel)
theorem fl_M_17 : Cond.fieldLink "HelpedLogModel" 17 "HelpedLogModel" "cell" "[I" ∈ TG_ := tg_i 577 (by decide +kernel) (by decide +kernel)
theorem fl_M_20 : Cond.fieldLink "HelpedLogModel" 20 "HelpedLogModel" "process" "[I" ∈ TG_ := tg_i 578 (by decide +kernel) (by decide +kernel)
theorem fl_M_23 : Cond.fieldLink "HelpedLogModel" 23 "HelpedLogModel" "does" "[I" ∈ TG_ := tg_i 579 (by decide +kernel) (by decide +kernel)
theorem fl_M_26 : Cond.fieldLink "HelpedLogModel" 26 "HelpedLogModel" "withA" "[I" ∈ TG_ := tg_i 580 (by decide +kernel) (by decide +kernel)
theorem fl_M_29 : Cond.fieldLink "HelpedLogModel" 29 "HelpedLogModel" "withB" "[I" ∈ TG_ := tg_i 581 (by decide +kernel) (by decide +kernel)
theorem fl_M_32 : Cond.fieldLink "HelpedLogModel" 32 "HelpedLogModel" "head" "[I" ∈ TG_ := tg_i 582 (by decide +kernel) (by decide +kernel)
theorem fl_M_35 : Cond.fieldLink "HelpedLogModel" 35 "HelpedLogModel" "announced" "[I" ∈ TG_ := tg_i 583 (by decide +kernel) (by decide +kernel)
theorem fl_M_38 : Cond.fieldLink "HelpedLogModel" 38 "HelpedLogModel" "stage" "[I" ∈ TG_ := tg_i 584 (by decide +kernel) (by decide +kernel)
theorem fl_M_41 : Cond.fieldLink "HelpedLogModel" 41 "HelpedLogModel" "looks" "[I" ∈ TG_ := tg_i 585 (by decide +kernel) (by decide +kernel)
theorem fl_M_44 : Cond.fieldLink "HelpedLogModel" 44 "HelpedLogModel" "own" "[I" ∈ TG_ := tg_i 586 (by decide +kernel) (by decide +kernel)
theorem fl_M_47 : Cond.fieldLink "HelpedLogModel" 47 "HelpedLogModel" "best" "[I" ∈ TG_ := tg_i 587 (by decide +kernel) (by decide +kernel)
theorem fl_M_50 : Cond.fieldLink "HelpedLogModel" 50 "HelpedLogModel" "proposal" "[I" ∈ TG_ := tg_i 588 (by decide +kernel) (by decide +kernel)
theorem fl_M_53 : Cond.fieldLink "HelpedLogModel" 53 "HelpedLogModel" "wants" "[I" ∈ TG_ := tg_i 589 (by decide +kernel) (by decide +kernel)
theorem fl_M_56 : Cond.fieldLink "HelpedLogModel" 56 "HelpedLogModel" "wantsA" "[I" ∈ TG_ := tg_i 590 (by decide +kernel) (by decide +kernel)
theorem fl_M_59 : Cond.fieldLink "HelpedLogModel" 59 "HelpedLogModel" "wantsB" "[I" ∈ TG_ := tg_i 591 (by decide +kernel) (by decide +kernel)
theorem fl_M_62 : Cond.fieldLink "HelpedLogModel" 62 "HelpedLogModel" "dones" "[I" ∈ TG_ := tg_i 592 (by decide +kernel) (by decide +kernel)
theorem fl_M_65 : Cond.fieldLink "HelpedLogModel" 65 "HelpedLogModel" "answers" "[I" ∈ TG_ := tg_i 593 (by decide +kernel) (by decide +kernel)
theorem fl_M_68 : Cond.fieldLink "HelpedLogModel" 68 "HelpedLogModel" "places" "[I" ∈ TG_ := tg_i 594 (by decide +kernel) (by decide +kernel)
theorem fl_M_93 : Cond.fieldLink "HelpedLogModel" 93 "HelpedLogModel" "end" "I" ∈ TG_ := tg_i 595 (by decide +kernel) (by decide +kernel)
theorem fl_M_71 : Cond.fieldLink "HelpedLogModel" 71 "HelpedLogModel" "callDoes" "[I" ∈ TG_ := tg_i 596 (by decide +kernel) (by decide +kernel)
theorem fl_M_74 : Cond.fieldLink "HelpedLogModel" 74 "HelpedLogModel" "callA" "[I" ∈ TG_ := tg_i 597 (by decide +kernel) (by decide +kernel)
theorem fl_M_77 : Cond.fieldLink "HelpedLogModel" 77 "HelpedLogModel" "callB" "[I" ∈ TG_ := tg_i 598 (by decide +kernel) (by decide +kernel)
theorem fl_M_80 : Cond.fieldLink "HelpedLogModel" 80 "HelpedLogModel" "thing" "[I" ∈ TG_ := tg_i 599 (by decide +kernel) (by decide +kernel)
theorem fl_M_102 : Cond.fieldLink "HelpedLogModel" 102 "HelpedLogModel" "size" "I" ∈ TG_ := tg_i 600 (by decide +kernel) (by decide +kernel)
theorem fl_M_83 : Cond.fieldLink "HelpedLogModel" 83 "HelpedLogModel" "mine" "[I" ∈ TG_ := tg_i 601 (by decide +kernel) (by decide +kernel)
theorem fl_M_160 : Cond.fieldLink "HelpedLogModel" 160 "HelpedLogModel" "mySize" "I" ∈ TG_ := tg_i 602 (by decide +kernel) (by decide +kernel)
theorem ac_boolean : Cond.arrayClass .boolean ∈ TG_ := tg_i 666 (by decide +kernel) (by decide +kernel)
theorem ml_L_70 : Cond.methodLink "HelpedLogLaw" 70 yn_M_thrown ∈ TG_ := tg_i 667 (by decide +kernel) (by decide +kernel)
theorem im_M_thrown : Cond.instanceMethod yn_M_thrown ∈ TG_ := tg_i 668 (by decide +kernel) (by decide +kernel)
theorem sl_M_Mthrown : Cond.selects "HelpedLogModel" yn_M_thrown yn_M_thrown ∈ TG_ := tg_i 669 (by decide +kernel) (by decide +kernel)
theorem co_M_thrown : Cond.code yn_M_thrown cd_M_thrown 1 (some .int) ∈ TG_ := tg_i 670 (by decide +kernel) (by decide +kernel)
theorem ml_L_69 : Cond.methodLink "HelpedLogLaw" 69 yn_M_call ∈ TG_ := tg_i 671 (by decide +kernel) (by decide +kernel)
theorem im_M_call : Cond.instanceMethod yn_M_call ∈ TG_ := tg_i 672 (by decide +kernel) (by decide +kernel)
theorem sl_M_Mcall : Cond.selects "HelpedLogModel" yn_M_call yn_M_call ∈ TG_ := tg_i 673 (by decide +kernel) (by decide +kernel)
theorem co_M_call : Cond.code yn_M_call cd_M_call 5 none ∈ TG_ := tg_i 674 (by decide +kernel) (by decide +kernel)
theorem ml_M_119 : Cond.methodLink "HelpedLogModel" 119 yn_M_isProcess ∈ TG_ := tg_i 675 (by decide +kernel) (by decide +kernel)
theorem im_M_isProcess : Cond.instanceMethod yn_M_isProcess ∈ TG_ := tg_i 677 (by decide +kernel) (by decide +kernel)
theorem co_M_isProcess : Cond.code yn_M_isProcess cd_M_isProcess 2 (some .boolean) ∈ TG_ := tg_i 678 (by decide +kernel) (by decide +kernel)
theorem ml_M_123 : Cond.methodLink "HelpedLogModel" 123 yn_M_refused ∈ TG_ := tg_i 679 (by decide +kernel) (by decide +kernel)
theorem im_M_refused : Cond.instanceMethod yn_M_refused ∈ TG_ := tg_i 681 (by decide +kernel) (by decide +kernel)
theorem co_M_refused : Cond.code yn_M_refused cd_M_refused 2 (some .boolean) ∈ TG_ := tg_i 682 (by decide +kernel) (by decide +kernel)
theorem ml_L_77 : Cond.methodLink "HelpedLogLaw" 77 yn_M_step ∈ TG_ := tg_i 683 (by decide +kernel) (by decide +kernel)
theorem im_M_step : Cond.instanceMethod yn_M_step ∈ TG_ := tg_i 684 (by decide +kernel) (by decide +kernel)
theorem sl_M_Mstep : Cond.selects "HelpedLogModel" yn_M_step yn_M_step ∈ TG_ := tg_i 685 (by decide +kernel) (by decide +kernel)
theorem co_M_step : Cond.code yn_M_step cd_M_step 2 (some .int) ∈ TG_ := tg_i 686 (by decide +kernel) (by decide +kernel)
theorem ml_M_149 : Cond.methodLink "HelpedLogModel" 149 yn_M_one ∈ TG_ := tg_i 687 (by decide +kernel) (by decide +kernel)
theorem im_M_one : Cond.instanceMethod yn_M_one ∈ TG_ := tg_i 689 (by decide +kernel) (by decide +kernel)
theorem co_M_one : Cond.code yn_M_one cd_M_one 2 (some .int) ∈ TG_ := tg_i 690 (by decide +kernel) (by decide +kernel)
theorem ml_M_130 : Cond.methodLink "HelpedLogModel" 130 yn_M_announce ∈ TG_ := tg_i 691 (by decide +kernel) (by decide +kernel)
theorem im_M_announce : Cond.instanceMethod yn_M_announce ∈ TG_ := tg_i 693 (by decide +kernel) (by decide +kernel)
theorem co_M_announce : Cond.code yn_M_announce cd_M_announce 4 (some .int) ∈ TG_ := tg_i 694 (by decide +kernel) (by decide +kernel)
theorem ml_M_133 : Cond.methodLink "HelpedLogModel" 133 yn_M_look ∈ TG_ := tg_i 695 (by decide +kernel) (by decide +kernel)
theorem im_M_look : Cond.instanceMethod yn_M_look ∈ TG_ := tg_i 697 (by decide +kernel) (by decide +kernel)
theorem co_M_look : Cond.code yn_M_look cd_M_look 3 none ∈ TG_ := tg_i 698 (by decide +kernel) (by decide +kernel)
theorem ml_M_137 : Cond.methodLink "HelpedLogModel" 137 yn_M_choose ∈ TG_ := tg_i 699 (by decide +kernel) (by decide +kernel)
theorem im_M_choose : Cond.instanceMethod yn_M_choose ∈ TG_ := tg_i 701 (by decide +kernel) (by decide +kernel)
theorem co_M_choose : Cond.code yn_M_choose cd_M_choose 3 none ∈ TG_ := tg_i 702 (by decide +kernel) (by decide +kernel)
theorem ml_M_140 : Cond.methodLink "HelpedLogModel" 140 yn_M_propose ∈ TG_ := tg_i 703 (by decide +kernel) (by decide +kernel)
theorem im_M_propose : Cond.instanceMethod yn_M_propose ∈ TG_ := tg_i 705 (by decide +kernel) (by decide +kernel)
theorem co_M_propose : Cond.code yn_M_propose cd_M_propose 3 none ∈ TG_ := tg_i 706 (by decide +kernel) (by decide +kernel)
theorem ml_M_143 : Cond.methodLink "HelpedLogModel" 143 yn_M_give ∈ TG_ := tg_i 707 (by decide +kernel) (by decide +kernel)
theorem im_M_give : Cond.instanceMethod yn_M_give ∈ TG_ := tg_i 709 (by decide +kernel) (by decide +kernel)
theorem co_M_give : Cond.code yn_M_give cd_M_give 4 none ∈ TG_ := tg_i 710 (by decide +kernel) (by decide +kernel)
theorem ml_M_146 : Cond.methodLink "HelpedLogModel" 146 yn_M_finish ∈ TG_ := tg_i 711 (by decide +kernel) (by decide +kernel)
theorem im_M_finish : Cond.instanceMethod yn_M_finish ∈ TG_ := tg_i 713 (by decide +kernel) (by decide +kernel)
theorem co_M_finish : Cond.code yn_M_finish cd_M_finish 2 (some .int) ∈ TG_ := tg_i 714 (by decide +kernel) (by decide +kernel)
theorem ml_M_126 : Cond.methodLink "HelpedLogModel" 126 yn_M_replay ∈ TG_ := tg_i 715 (by decide +kernel) (by decide +kernel)
theorem im_M_replay : Cond.instanceMethod yn_M_replay ∈ TG_ := tg_i 717 (by decide +kernel) (by decide +kernel)
theorem co_M_replay : Cond.code yn_M_replay cd_M_replay 4 (some .int) ∈ TG_ := tg_i 718 (by decide +kernel) (by decide +kernel)
theorem ml_M_116 : Cond.methodLink "HelpedLogModel" 116 yn_M_act ∈ TG_ := tg_i 719 (by decide +kernel) (by decide +kernel)
theorem im_M_act : Cond.instanceMethod yn_M_act ∈ TG_ := tg_i 721 (by decide +kernel) (by decide +kernel)
theorem co_M_act : Cond.code yn_M_act cd_M_act 4 (some .int) ∈ TG_ := tg_i 722 (by decide +kernel) (by decide +kernel)
theorem ml_M_105 : Cond.methodLink "HelpedLogModel" 105 yn_M_queue ∈ TG_ := tg_i 723 (by decide +kernel) (by decide +kernel)
theorem im_M_queue : Cond.instanceMethod yn_M_queue ∈ TG_ := tg_i 725 (by decide +kernel) (by decide +kernel)
theorem co_M_queue : Cond.code yn_M_queue cd_M_queue 5 (some .int) ∈ TG_ := tg_i 726 (by decide +kernel) (by decide +kernel)
theorem ml_M_109 : Cond.methodLink "HelpedLogModel" 109 yn_M_table ∈ TG_ := tg_i 727 (by decide +kernel) (by decide +kernel)
theorem im_M_table : Cond.instanceMethod yn_M_table ∈ TG_ := tg_i 729 (by decide +kernel) (by decide +kernel)
theorem co_M_table : Cond.code yn_M_table cd_M_table 6 (some .int) ∈ TG_ := tg_i 730 (by decide +kernel) (by decide +kernel)
theorem ml_M_113 : Cond.methodLink "HelpedLogModel" 113 yn_M_bank ∈ TG_ := tg_i 731 (by decide +kernel) (by decide +kernel)
theorem im_M_bank : Cond.instanceMethod yn_M_bank ∈ TG_ := tg_i 733 (by decide +kernel) (by decide +kernel)
theorem co_M_bank : Cond.code yn_M_bank cd_M_bank 5 (some .int) ∈ TG_ := tg_i 734 (by decide +kernel) (by decide +kernel)
theorem ml_L_81 : Cond.methodLink "HelpedLogLaw" 81 yn_M_run ∈ TG_ := tg_i 735 (by decide +kernel) (by decide +kernel)
theorem im_M_run : Cond.instanceMethod yn_M_run ∈ TG_ := tg_i 736 (by decide +kernel) (by decide +kernel)
theorem sl_M_Mrun : Cond.selects "HelpedLogModel" yn_M_run yn_M_run ∈ TG_ := tg_i 737 (by decide +kernel) (by decide +kernel)
theorem co_M_run : Cond.code yn_M_run cd_M_run 6 (some .int) ∈ TG_ := tg_i 738 (by decide +kernel) (by decide +kernel)
theorem kc_M_152 : Cond.constant "HelpedLogModel" 152 1103515245 ∈ TG_ := tg_i 739 (by decide +kernel) (by decide +kernel)
theorem ml_L_84 : Cond.methodLink "HelpedLogLaw" 84 yn_M_done ∈ TG_ := tg_i 740 (by decide +kernel) (by decide +kernel)
theorem im_M_done : Cond.instanceMethod yn_M_done ∈ TG_ := tg_i 741 (by decide +kernel) (by decide +kernel)
theorem sl_M_Mdone : Cond.selects "HelpedLogModel" yn_M_done yn_M_done ∈ TG_ := tg_i 742 (by decide +kernel) (by decide +kernel)
theorem co_M_done : Cond.code yn_M_done cd_M_done 2 (some .int) ∈ TG_ := tg_i 743 (by decide +kernel) (by decide +kernel)
theorem ml_L_87 : Cond.methodLink "HelpedLogLaw" 87 yn_M_answer ∈ TG_ := tg_i 744 (by decide +kernel) (by decide +kernel)
theorem im_M_answer : Cond.instanceMethod yn_M_answer ∈ TG_ := tg_i 745 (by decide +kernel) (by decide +kernel)
theorem sl_M_Manswer : Cond.selects "HelpedLogModel" yn_M_answer yn_M_answer ∈ TG_ := tg_i 746 (by decide +kernel) (by decide +kernel)
theorem co_M_answer : Cond.code yn_M_answer cd_M_answer 2 (some .int) ∈ TG_ := tg_i 747 (by decide +kernel) (by decide +kernel)
theorem ml_L_90 : Cond.methodLink "HelpedLogLaw" 90 yn_M_placeOf ∈ TG_ := tg_i 748 (by decide +kernel) (by decide +kernel)
theorem im_M_placeOf : Cond.instanceMethod yn_M_placeOf ∈ TG_ := tg_i 749 (by decide +kernel) (by decide +kernel)
theorem sl_M_MplaceOf : Cond.selects "HelpedLogModel" yn_M_placeOf yn_M_placeOf ∈ TG_ := tg_i 750 (by decide +kernel) (by decide +kernel)
theorem co_M_placeOf : Cond.code yn_M_placeOf cd_M_placeOf 2 (some .int) ∈ TG_ := tg_i 751 (by decide +kernel) (by decide +kernel)
theorem ml_L_94 : Cond.methodLink "HelpedLogLaw" 94 yn_M_end ∈ TG_ := tg_i 752 (by decide +kernel) (by decide +kernel)
theorem im_M_end : Cond.instanceMethod yn_M_end ∈ TG_ := tg_i 753 (by decide +kernel) (by decide +kernel)
theorem sl_M_Mend : Cond.selects "HelpedLogModel" yn_M_end yn_M_end ∈ TG_ := tg_i 754 (by decide +kernel) (by decide +kernel)
theorem co_M_end : Cond.code yn_M_end cd_M_end 1 (some .int) ∈ TG_ := tg_i 755 (by decide +kernel) (by decide +kernel)
theorem ml_L_98 : Cond.methodLink "HelpedLogLaw" 98 yn_M_oldest ∈ TG_ := tg_i 756 (by decide +kernel) (by decide +kernel)
theorem im_M_oldest : Cond.instanceMethod yn_M_oldest ∈ TG_ := tg_i 757 (by decide +kernel) (by decide +kernel)
theorem sl_M_Moldest : Cond.selects "HelpedLogModel" yn_M_oldest yn_M_oldest ∈ TG_ := tg_i 758 (by decide +kernel) (by decide +kernel)
theorem co_M_oldest : Cond.code yn_M_oldest cd_M_oldest 1 (some .int) ∈ TG_ := tg_i 759 (by decide +kernel) (by decide +kernel)
theorem ml_M_153 : Cond.methodLink "HelpedLogModel" 153 yn_M_leastInUse ∈ TG_ := tg_i 760 (by decide +kernel) (by decide +kernel)
theorem im_M_leastInUse : Cond.instanceMethod yn_M_leastInUse ∈ TG_ := tg_i 762 (by decide +kernel) (by decide +kernel)
theorem co_M_leastInUse : Cond.code yn_M_leastInUse cd_M_leastInUse 3 (some .int) ∈ TG_ := tg_i 763 (by decide +kernel) (by decide +kernel)
theorem ml_L_101 : Cond.methodLink "HelpedLogLaw" 101 yn_M_node ∈ TG_ := tg_i 764 (by decide +kernel) (by decide +kernel)
theorem im_M_node : Cond.instanceMethod yn_M_node ∈ TG_ := tg_i 765 (by decide +kernel) (by decide +kernel)
theorem sl_M_Mnode : Cond.selects "HelpedLogModel" yn_M_node yn_M_node ∈ TG_ := tg_i 766 (by decide +kernel) (by decide +kernel)
theorem co_M_node : Cond.code yn_M_node cd_M_node 5 (some .int) ∈ TG_ := tg_i 767 (by decide +kernel) (by decide +kernel)
theorem ml_L_104 : Cond.methodLink "HelpedLogLaw" 104 yn_M_stage ∈ TG_ := tg_i 768 (by decide +kernel) (by decide +kernel)
theorem im_M_stage : Cond.instanceMethod yn_M_stage ∈ TG_ := tg_i 769 (by decide +kernel) (by decide +kernel)
theorem sl_M_Mstage : Cond.selects "HelpedLogModel" yn_M_stage yn_M_stage ∈ TG_ := tg_i 770 (by decide +kernel) (by decide +kernel)
theorem co_M_stage : Cond.code yn_M_stage cd_M_stage 2 (some .int) ∈ TG_ := tg_i 771 (by decide +kernel) (by decide +kernel)
theorem ml_L_107 : Cond.methodLink "HelpedLogLaw" 107 yn_M_head ∈ TG_ := tg_i 772 (by decide +kernel) (by decide +kernel)
theorem im_M_head : Cond.instanceMethod yn_M_head ∈ TG_ := tg_i 773 (by decide +kernel) (by decide +kernel)
theorem sl_M_Mhead : Cond.selects "HelpedLogModel" yn_M_head yn_M_head ∈ TG_ := tg_i 774 (by decide +kernel) (by decide +kernel)
theorem co_M_head : Cond.code yn_M_head cd_M_head 2 (some .int) ∈ TG_ := tg_i 775 (by decide +kernel) (by decide +kernel)
theorem ml_L_111 : Cond.methodLink "HelpedLogLaw" 111 yn_M_used ∈ TG_ := tg_i 776 (by decide +kernel) (by decide +kernel)
theorem im_M_used : Cond.instanceMethod yn_M_used ∈ TG_ := tg_i 777 (by decide +kernel) (by decide +kernel)
theorem sl_M_Mused : Cond.selects "HelpedLogModel" yn_M_used yn_M_used ∈ TG_ := tg_i 778 (by decide +kernel) (by decide +kernel)
theorem co_M_used : Cond.code yn_M_used cd_M_used 1 (some .int) ∈ TG_ := tg_i 779 (by decide +kernel) (by decide +kernel)
theorem ml_M_157 : Cond.methodLink "HelpedLogModel" 157 yn_M_inUseCount ∈ TG_ := tg_i 780 (by decide +kernel) (by decide +kernel)
theorem im_M_inUseCount : Cond.instanceMethod yn_M_inUseCount ∈ TG_ := tg_i 782 (by decide +kernel) (by decide +kernel)
theorem co_M_inUseCount : Cond.code yn_M_inUseCount cd_M_inUseCount 3 (some .int) ∈ TG_ := tg_i 783 (by decide +kernel) (by decide +kernel)
theorem ml_L_115 : Cond.methodLink "HelpedLogLaw" 115 yn_M_cut ∈ TG_ := tg_i 784 (by decide +kernel) (by decide +kernel)
theorem im_M_cut : Cond.instanceMethod yn_M_cut ∈ TG_ := tg_i 785 (by decide +kernel) (by decide +kernel)
theorem sl_M_Mcut : Cond.selects "HelpedLogModel" yn_M_cut yn_M_cut ∈ TG_ := tg_i 786 (by decide +kernel) (by decide +kernel)
theorem co_M_cut : Cond.code yn_M_cut cd_M_cut 6 (some .int) ∈ TG_ := tg_i 787 (by decide +kernel) (by decide +kernel)
theorem ml_L_119 : Cond.methodLink "HelpedLogLaw" 119 yn_M_peek ∈ TG_ := tg_i 788 (by decide +kernel) (by decide +kernel)
theorem im_M_peek : Cond.instanceMethod yn_M_peek ∈ TG_ := tg_i 789 (by decide +kernel) (by decide +kernel)
theorem sl_M_Mpeek : Cond.selects "HelpedLogModel" yn_M_peek yn_M_peek ∈ TG_ := tg_i 790 (by decide +kernel) (by decide +kernel)
theorem co_M_peek : Cond.code yn_M_peek cd_M_peek 4 (some .int) ∈ TG_ := tg_i 791 (by decide +kernel) (by decide +kernel)
theorem ml_L_122 : Cond.methodLink "HelpedLogLaw" 122 yn_M_plain ∈ TG_ := tg_i 792 (by decide +kernel) (by decide +kernel)
theorem im_M_plain : Cond.instanceMethod yn_M_plain ∈ TG_ := tg_i 793 (by decide +kernel) (by decide +kernel)
theorem sl_M_Mplain : Cond.selects "HelpedLogModel" yn_M_plain yn_M_plain ∈ TG_ := tg_i 794 (by decide +kernel) (by decide +kernel)
theorem co_M_plain : Cond.code yn_M_plain cd_M_plain 6 (some .int) ∈ TG_ := tg_i 795 (by decide +kernel) (by decide +kernel)
theorem ac_long : Cond.arrayClass .long ∈ TG_ := tg_i 796 (by decide +kernel) (by decide +kernel)
theorem sa_G_putIn : Cond.sameMethod "HelpedLog$Bag" "HelpedLog$Bag" "putIn" "(I)I" ∈ TG_ := tg_i 798 (by decide +kernel) (by decide +kernel)
theorem sl_H_HgreatestHead : Cond.selects "HelpedLog" yn_H_greatestHead yn_H_greatestHead ∈ TG_ := tg_s 0 (by decide +kernel) (by decide +kernel)
theorem sl_H_HbringIdleHeadsTo : Cond.selects "HelpedLog" yn_H_bringIdleHeadsTo yn_H_bringIdleHeadsTo ∈ TG_ := tg_s 1 (by decide +kernel) (by decide +kernel)
theorem sl_H_HleastHeadNumber : Cond.selects "HelpedLog" yn_H_leastHeadNumber yn_H_leastHeadNumber ∈ TG_ := tg_s 2 (by decide +kernel) (by decide +kernel)
theorem sl_H_HreleaseBelow : Cond.selects "HelpedLog" yn_H_releaseBelow yn_H_releaseBelow ∈ TG_ := tg_s 3 (by decide +kernel) (by decide +kernel)
theorem sl_H_HcheckProcess : Cond.selects "HelpedLog" yn_H_checkProcess yn_H_checkProcess ∈ TG_ := tg_s 4 (by decide +kernel) (by decide +kernel)
theorem sl_H_Hadvance : Cond.selects "HelpedLog" yn_H_advance yn_H_advance ∈ TG_ := tg_s 6 (by decide +kernel) (by decide +kernel)
theorem sl_H_Hannounce : Cond.selects "HelpedLog" yn_H_announce yn_H_announce ∈ TG_ := tg_s 7 (by decide +kernel) (by decide +kernel)
theorem sl_H_HfindFree : Cond.selects "HelpedLog" yn_H_findFree yn_H_findFree ∈ TG_ := tg_s 8 (by decide +kernel) (by decide +kernel)
theorem sl_H_Hlook : Cond.selects "HelpedLog" yn_H_look yn_H_look ∈ TG_ := tg_s 9 (by decide +kernel) (by decide +kernel)
theorem sl_H_Hchoose : Cond.selects "HelpedLog" yn_H_choose yn_H_choose ∈ TG_ := tg_s 10 (by decide +kernel) (by decide +kernel)
theorem sl_H_Hpropose : Cond.selects "HelpedLog" yn_H_propose yn_H_propose ∈ TG_ := tg_s 11 (by decide +kernel) (by decide +kernel)
theorem sl_H_HgiveNumber : Cond.selects "HelpedLog" yn_H_giveNumber yn_H_giveNumber ∈ TG_ := tg_s 12 (by decide +kernel) (by decide +kernel)
theorem sl_B_Btransfer : Cond.selects "HelpedLog$Bank" yn_B_transfer yn_B_transfer ∈ TG_ := tg_s 13 (by decide +kernel) (by decide +kernel)
theorem sl_T_Tsum : Cond.selects "HelpedLog$Table" yn_T_sum yn_T_sum ∈ TG_ := tg_s 14 (by decide +kernel) (by decide +kernel)
theorem sl_H_HfindOnLog : Cond.selects "HelpedLog" yn_H_findOnLog yn_H_findOnLog ∈ TG_ := tg_s 15 (by decide +kernel) (by decide +kernel)
theorem sl_M_Mbegin : Cond.selects "HelpedLogModel" yn_M_begin yn_M_begin ∈ TG_ := tg_s 16 (by decide +kernel) (by decide +kernel)
theorem sl_M_MisProcess : Cond.selects "HelpedLogModel" yn_M_isProcess yn_M_isProcess ∈ TG_ := tg_s 17 (by decide +kernel) (by decide +kernel)
theorem sl_M_Mrefused : Cond.selects "HelpedLogModel" yn_M_refused yn_M_refused ∈ TG_ := tg_s 18 (by decide +kernel) (by decide +kernel)
theorem sl_M_Mone : Cond.selects "HelpedLogModel" yn_M_one yn_M_one ∈ TG_ := tg_s 19 (by decide +kernel) (by decide +kernel)
theorem sl_M_Mannounce : Cond.selects "HelpedLogModel" yn_M_announce yn_M_announce ∈ TG_ := tg_s 20 (by decide +kernel) (by decide +kernel)
theorem sl_M_Mlook : Cond.selects "HelpedLogModel" yn_M_look yn_M_look ∈ TG_ := tg_s 21 (by decide +kernel) (by decide +kernel)
theorem sl_M_Mchoose : Cond.selects "HelpedLogModel" yn_M_choose yn_M_choose ∈ TG_ := tg_s 22 (by decide +kernel) (by decide +kernel)
theorem sl_M_Mpropose : Cond.selects "HelpedLogModel" yn_M_propose yn_M_propose ∈ TG_ := tg_s 23 (by decide +kernel) (by decide +kernel)
theorem sl_M_Mgive : Cond.selects "HelpedLogModel" yn_M_give yn_M_give ∈ TG_ := tg_s 24 (by decide +kernel) (by decide +kernel)
theorem sl_M_Mfinish : Cond.selects "HelpedLogModel" yn_M_finish yn_M_finish ∈ TG_ := tg_s 25 (by decide +kernel) (by decide +kernel)
theorem sl_M_Mreplay : Cond.selects "HelpedLogModel" yn_M_replay yn_M_replay ∈ TG_ := tg_s 26 (by decide +kernel) (by decide +kernel)
theorem sl_M_Mact : Cond.selects "HelpedLogModel" yn_M_act yn_M_act ∈ TG_ := tg_s 27 (by decide +kernel) (by decide +kernel)
theorem sl_M_Mqueue : Cond.selects "HelpedLogModel" yn_M_queue yn_M_queue ∈ TG_ := tg_s 28 (by decide +kernel) (by decide +kernel)
theorem sl_M_Mtable : Cond.selects "HelpedLogModel" yn_M_table yn_M_table ∈ TG_ := tg_s 29 (by decide +kernel) (by decide +kernel)
theorem sl_M_Mbank : Cond.selects "HelpedLogModel" yn_M_bank yn_M_bank ∈ TG_ := tg_s 30 (by decide +kernel) (by decide +kernel)
theorem sl_M_MleastInUse : Cond.selects "HelpedLogModel" yn_M_leastInUse yn_M_leastInUse ∈ TG_ := tg_s 31 (by decide +kernel) (by decide +kernel)
theorem sl_M_MinUseCount : Cond.selects "HelpedLogModel" yn_M_inUseCount yn_M_inUseCount ∈ TG_ := tg_s 32 (by decide +kernel) (by decide +kernel)
theorem in_H : ∀ w ∈ u_ws rn_H ft_H 5, w ∈ TG_ := fun w hw => by
  have h : ∀ w ∈ u_ws rn_H ft_H 5, w ∈ lw_tbl ∧ goodWord w = true := by decide +kernel
  exact List.mem_filter.mpr (h w hw)
theorem in_N : ∀ w ∈ u_ws rn_N ft_N 8, w ∈ TG_ := fun w hw => by
  have h : ∀ w ∈ u_ws rn_N ft_N 8, w ∈ lw_tbl ∧ goodWord w = true := by decide +kernel
  exact List.mem_filter.mpr (h w hw)
theorem in_C : ∀ w ∈ u_ws rn_C ft_C 14, w ∈ TG_ := fun w hw => by
  have h : ∀ w ∈ u_ws rn_C ft_C 14, w ∈ lw_tbl ∧ goodWord w = true := by decide +kernel
  exact List.mem_filter.mpr (h w hw)
theorem in_Q : ∀ w ∈ u_ws rn_Q ft_Q 2, w ∈ TG_ := fun w hw => by
  have h : ∀ w ∈ u_ws rn_Q ft_Q 2, w ∈ lw_tbl ∧ goodWord w = true := by decide +kernel
  exact List.mem_filter.mpr (h w hw)
theorem in_S : ∀ w ∈ u_ws rn_S ft_S 2, w ∈ TG_ := fun w hw => by
  have h : ∀ w ∈ u_ws rn_S ft_S 2, w ∈ lw_tbl ∧ goodWord w = true := by decide +kernel
  exact List.mem_filter.mpr (h w hw)
theorem in_T : ∀ w ∈ u_ws rn_T ft_T 2, w ∈ TG_ := fun w hw => by
  have h : ∀ w ∈ u_ws rn_T ft_T 2, w ∈ lw_tbl ∧ goodWord w = true := by decide +kernel
  exact List.mem_filter.mpr (h w hw)
theorem in_B : ∀ w ∈ u_ws rn_B ft_B 2, w ∈ TG_ := fun w hw => by
  have h : ∀ w ∈ u_ws rn_B ft_B 2, w ∈ lw_tbl ∧ goodWord w = true := by decide +kernel
  exact List.mem_filter.mpr (h w hw)
theorem in_M : ∀ w ∈ u_ws rn_M ft_M 31, w ∈ TG_ := fun w hw => by
  have h : ∀ w ∈ u_ws rn_M ft_M 31, w ∈ lw_tbl ∧ goodWord w = true := by decide +kernel
  exact List.mem_filter.mpr (h w hw)
end NAMES
end
section
section DEC_01x
theorem dc_M_init_0 : decode cd_M_init 0 = .ok (.aload_n 0, 1) := by decide +kernel
theorem dc_M_init_1 : decode cd_M_init 1 = .ok (.invokespecial 1, 3) := by decide +kernel
theorem dc_M_init_4 : decode cd_M_init 4 = .ok (.aload_n 0, 1) := by decide +kernel
theorem dc_M_init_5 : decode cd_M_init 5 = .ok (.bipush 32, 2) := by decide +kernel
theorem dc_M_init_7 : decode cd_M_init 7 = .ok (.newarray .boolean, 2) := by decide +kernel
theorem dc_M_init_9 : decode cd_M_init 9 = .ok (.putfield 7, 3) := by decide +kernel
theorem dc_M_init_12 : decode cd_M_init 12 = .ok (.aload_n 0, 1) := by decide +kernel
theorem dc_M_init_13 : decode cd_M_init 13 = .ok (.bipush 32, 2) := by decide +kernel
theorem dc_M_init_15 : decode cd_M_init 15 = .ok (.newarray .int, 2) := by decide +kernel
theorem dc_M_init_17 : decode cd_M_init 17 = .ok (.putfield 13, 3) := by decide +kernel
theorem dc_M_init_20 : decode cd_M_init 20 = .ok (.aload_n 0, 1) := by decide +kernel
theorem dc_M_init_21 : decode cd_M_init 21 = .ok (.bipush 32, 2) := by decide +kernel
theorem dc_M_init_23 : decode cd_M_init 23 = .ok (.newarray .int, 2) := by decide +kernel
theorem dc_M_init_25 : decode cd_M_init 25 = .ok (.putfield 17, 3) := by decide +kernel
theorem dc_M_init_28 : decode cd_M_init 28 = .ok (.aload_n 0, 1) := by decide +kernel
theorem dc_M_init_29 : decode cd_M_init 29 = .ok (.bipush 32, 2) := by decide +kernel
theorem dc_M_init_31 : decode cd_M_init 31 = .ok (.newarray .int, 2) := by decide +kernel
theorem dc_M_init_33 : decode cd_M_init 33 = .ok (.putfield 20, 3) := by decide +kernel
theorem dc_M_init_36 : decode cd_M_init 36 = .ok (.aload_n 0, 1) := by decide +kernel
theorem dc_M_init_37 : decode cd_M_init 37 = .ok (.bipush 32, 2) := by decide +kernel
theorem dc_M_init_39 : decode cd_M_init 39 = .ok (.newarray .int, 2) := by decide +kernel
theorem dc_M_init_41 : decode cd_M_init 41 = .ok (.putfield 23, 3) := by decide +kernel
theorem dc_M_init_44 : decode cd_M_init 44 = .ok (.aload_n 0, 1) := by decide +kernel
theorem dc_M_init_45 : decode cd_M_init 45 = .ok (.bipush 32, 2) := by decide +kernel
theorem dc_M_init_47 : decode cd_M_init 47 = .ok (.newarray .int, 2) := by decide +kernel
theorem dc_M_init_49 : decode cd_M_init 49 = .ok (.putfield 26, 3) := by decide +kernel
theorem dc_M_init_52 : decode cd_M_init 52 = .ok (.aload_n 0, 1) := by decide +kernel
theorem dc_M_init_53 : decode cd_M_init 53 = .ok (.bipush 32, 2) := by decide +kernel
theorem dc_M_init_55 : decode cd_M_init 55 = .ok (.newarray .int, 2) := by decide +kernel
theorem dc_M_init_57 : decode cd_M_init 57 = .ok (.putfield 29, 3) := by decide +kernel
theorem dc_M_init_60 : decode cd_M_init 60 = .ok (.aload_n 0, 1) := by decide +kernel
theorem dc_M_init_61 : decode cd_M_init 61 = .ok (.iconst 5, 1) := by decide +kernel
theorem dc_M_init_62 : decode cd_M_init 62 = .ok (.newarray .int, 2) := by decide +kernel
theorem dc_M_init_64 : decode cd_M_init 64 = .ok (.putfield 32, 3) := by decide +kernel
theorem dc_M_init_67 : decode cd_M_init 67 = .ok (.aload_n 0, 1) := by decide +kernel
theorem dc_M_init_68 : decode cd_M_init 68 = .ok (.iconst 5, 1) := by decide +kernel
theorem dc_M_init_69 : decode cd_M_init 69 = .ok (.newarray .int, 2) := by decide +kernel
theorem dc_M_init_71 : decode cd_M_init 71 = .ok (.putfield 35, 3) := by decide +kernel
theorem dc_M_init_74 : decode cd_M_init 74 = .ok (.aload_n 0, 1) := by decide +kernel
theorem dc_M_init_75 : decode cd_M_init 75 = .ok (.iconst 5, 1) := by decide +kernel
theorem dc_M_init_76 : decode cd_M_init 76 = .ok (.newarray .int, 2) := by decide +kernel
theorem dc_M_init_78 : decode cd_M_init 78 = .ok (.putfield 38, 3) := by decide +kernel
theorem dc_M_init_81 : decode cd_M_init 81 = .ok (.aload_n 0, 1) := by decide +kernel
theorem dc_M_init_82 : decode cd_M_init 82 = .ok (.iconst 5, 1) := by decide +kernel
theorem dc_M_init_83 : decode cd_M_init 83 = .ok (.newarray .int, 2) := by decide +kernel
theorem dc_M_init_85 : decode cd_M_init 85 = .ok (.putfield 41, 3) := by decide +kernel
theorem dc_M_init_88 : decode cd_M_init 88 = .ok (.aload_n 0, 1) := by decide +kernel
theorem dc_M_init_89 : decode cd_M_init 89 = .ok (.iconst 5, 1) := by decide +kernel
theorem dc_M_init_90 : decode cd_M_init 90 = .ok (.newarray .int, 2) := by decide +kernel
theorem dc_M_init_92 : decode cd_M_init 92 = .ok (.putfield 44, 3) := by decide +kernel
theorem dc_M_init_95 : decode cd_M_init 95 = .ok (.aload_n 0, 1) := by decide +kernel
theorem dc_M_init_96 : decode cd_M_init 96 = .ok (.iconst 5, 1) := by decide +kernel
theorem dc_M_init_97 : decode cd_M_init 97 = .ok (.newarray .int, 2) := by decide +kernel
theorem dc_M_init_99 : decode cd_M_init 99 = .ok (.putfield 47, 3) := by decide +kernel
theorem dc_M_init_102 : decode cd_M_init 102 = .ok (.aload_n 0, 1) := by decide +kernel
theorem dc_M_init_103 : decode cd_M_init 103 = .ok (.iconst 5, 1) := by decide +kernel
theorem dc_M_init_104 : decode cd_M_init 104 = .ok (.newarray .int, 2) := by decide +kernel
theorem dc_M_init_106 : decode cd_M_init 106 = .ok (.putfield 50, 3) := by decide +kernel
theorem dc_M_init_109 : decode cd_M_init 109 = .ok (.aload_n 0, 1) := by decide +kernel
theorem dc_M_init_110 : decode cd_M_init 110 = .ok (.iconst 5, 1) := by decide +kernel
theorem dc_M_init_111 : decode cd_M_init 111 = .ok (.newarray .int, 2) := by decide +kernel
theorem dc_M_init_113 : decode cd_M_init 113 = .ok (.putfield 53, 3) := by decide +kernel
theorem dc_M_init_116 : decode cd_M_init 116 = .ok (.aload_n 0, 1) := by decide +kernel
theorem dc_M_init_117 : decode cd_M_init 117 = .ok (.iconst 5, 1) := by decide +kernel
theorem dc_M_init_118 : decode cd_M_init 118 = .ok (.newarray .int, 2) := by decide +kernel
theorem dc_M_init_120 : decode cd_M_init 120 = .ok (.putfield 56, 3) := by decide +kernel
theorem dc_M_init_123 : decode cd_M_init 123 = .ok (.aload_n 0, 1) := by decide +kernel
theorem dc_M_init_124 : decode cd_M_init 124 = .ok (.iconst 5, 1) := by decide +kernel
theorem dc_M_init_125 : decode cd_M_init 125 = .ok (.newarray .int, 2) := by decide +kernel
theorem dc_M_init_127 : decode cd_M_init 127 = .ok (.putfield 59, 3) := by decide +kernel
theorem dc_M_init_130 : decode cd_M_init 130 = .ok (.aload_n 0, 1) := by decide +kernel
theorem dc_M_init_131 : decode cd_M_init 131 = .ok (.iconst 5, 1) := by decide +kernel
theorem dc_M_init_132 : decode cd_M_init 132 = .ok (.newarray .int, 2) := by decide +kernel
theorem dc_M_init_134 : decode cd_M_init 134 = .ok (.putfield 62, 3) := by decide +kernel
theorem dc_M_init_137 : decode cd_M_init 137 = .ok (.aload_n 0, 1) := by decide +kernel
theorem dc_M_init_138 : decode cd_M_init 138 = .ok (.iconst 5, 1) := by decide +kernel
theorem dc_M_init_139 : decode cd_M_init 139 = .ok (.newarray .int, 2) := by decide +kernel
theorem dc_M_init_141 : decode cd_M_init 141 = .ok (.putfield 65, 3) := by decide +kernel
theorem dc_M_init_144 : decode cd_M_init 144 = .ok (.aload_n 0, 1) := by decide +kernel
theorem dc_M_init_145 : decode cd_M_init 145 = .ok (.iconst 5, 1) := by decide +kernel
theorem dc_M_init_146 : decode cd_M_init 146 = .ok (.newarray .int, 2) := by decide +kernel
theorem dc_M_init_148 : decode cd_M_init 148 = .ok (.putfield 68, 3) := by decide +kernel
theorem dc_M_init_151 : decode cd_M_init 151 = .ok (.aload_n 0, 1) := by decide +kernel
theorem dc_M_init_152 : decode cd_M_init 152 = .ok (.sipush 600, 3) := by decide +kernel
theorem dc_M_init_155 : decode cd_M_init 155 = .ok (.newarray .int, 2) := by decide +kernel
theorem dc_M_init_157 : decode cd_M_init 157 = .ok (.putfield 71, 3) := by decide +kernel
theorem dc_M_init_160 : decode cd_M_init 160 = .ok (.aload_n 0, 1) := by decide +kernel
theorem dc_M_init_161 : decode cd_M_init 161 = .ok (.sipush 600, 3) := by decide +kernel
theorem dc_M_init_164 : decode cd_M_init 164 = .ok (.newarray .int, 2) := by decide +kernel
theorem dc_M_init_166 : decode cd_M_init 166 = .ok (.putfield 74, 3) := by decide +kernel
theorem dc_M_init_169 : decode cd_M_init 169 = .ok (.aload_n 0, 1) := by decide +kernel
theorem dc_M_init_170 : decode cd_M_init 170 = .ok (.sipush 600, 3) := by decide +kernel
theorem dc_M_init_173 : decode cd_M_init 173 = .ok (.newarray .int, 2) := by decide +kernel
theorem dc_M_init_175 : decode cd_M_init 175 = .ok (.putfield 77, 3) := by decide +kernel
theorem dc_M_init_178 : decode cd_M_init 178 = .ok (.aload_n 0, 1) := by decide +kernel
theorem dc_M_init_179 : decode cd_M_init 179 = .ok (.bipush 8, 2) := by decide +kernel
theorem dc_M_init_181 : decode cd_M_init 181 = .ok (.newarray .int, 2) := by decide +kernel
theorem dc_M_init_183 : decode cd_M_init 183 = .ok (.putfield 80, 3) := by decide +kernel
theorem dc_M_init_186 : decode cd_M_init 186 = .ok (.aload_n 0, 1) := by decide +kernel
theorem dc_M_init_187 : decode cd_M_init 187 = .ok (.bipush 8, 2) := by decide +kernel
theorem dc_M_init_189 : decode cd_M_init 189 = .ok (.newarray .int, 2) := by decide +kernel
theorem dc_M_init_191 : decode cd_M_init 191 = .ok (.putfield 83, 3) := by decide +kernel
theorem dc_M_init_194 : decode cd_M_init 194 = .ok (.aload_n 0, 1) := by decide +kernel
theorem dc_M_init_195 : decode cd_M_init 195 = .ok (.iload_n 1, 1) := by decide +kernel
theorem dc_M_init_196 : decode cd_M_init 196 = .ok (.ifCond .ge 7, 3) := by decide +kernel
theorem dc_M_init_199 : decode cd_M_init 199 = .ok (.iconst 0, 1) := by decide +kernel
theorem dc_M_init_200 : decode cd_M_init 200 = .ok (.goto 13, 3) := by decide +kernel
theorem dc_M_init_203 : decode cd_M_init 203 = .ok (.iload_n 1, 1) := by decide +kernel
theorem dc_M_init_204 : decode cd_M_init 204 = .ok (.iconst 3, 1) := by decide +kernel
theorem dc_M_init_205 : decode cd_M_init 205 = .ok (.if_icmp .le 7, 3) := by decide +kernel
theorem dc_M_init_208 : decode cd_M_init 208 = .ok (.iconst 3, 1) := by decide +kernel
theorem dc_M_init_209 : decode cd_M_init 209 = .ok (.goto 4, 3) := by decide +kernel
theorem dc_M_init_212 : decode cd_M_init 212 = .ok (.iload_n 1, 1) := by decide +kernel
theorem dc_M_init_213 : decode cd_M_init 213 = .ok (.putfield 86, 3) := by decide +kernel
theorem dc_M_init_216 : decode cd_M_init 216 = .ok (.aload_n 0, 1) := by decide +kernel
theorem dc_M_init_217 : decode cd_M_init 217 = .ok (.iload_n 2, 1) := by decide +kernel
theorem dc_M_init_218 : decode cd_M_init 218 = .ok (.iconst 1, 1) := by decide +kernel
theorem dc_M_init_219 : decode cd_M_init 219 = .ok (.if_icmp .ge 7, 3) := by decide +kernel
theorem dc_M_init_222 : decode cd_M_init 222 = .ok (.iconst 1, 1) := by decide +kernel
theorem dc_M_init_223 : decode cd_M_init 223 = .ok (.goto 13, 3) := by decide +kernel
theorem dc_M_init_226 : decode cd_M_init 226 = .ok (.iload_n 2, 1) := by decide +kernel
theorem dc_M_init_227 : decode cd_M_init 227 = .ok (.iconst 5, 1) := by decide +kernel
theorem dc_M_init_228 : decode cd_M_init 228 = .ok (.if_icmp .le 7, 3) := by decide +kernel
theorem dc_M_init_231 : decode cd_M_init 231 = .ok (.iconst 5, 1) := by decide +kernel
theorem dc_M_init_232 : decode cd_M_init 232 = .ok (.goto 4, 3) := by decide +kernel
theorem dc_M_init_235 : decode cd_M_init 235 = .ok (.iload_n 2, 1) := by decide +kernel
theorem dc_M_init_236 : decode cd_M_init 236 = .ok (.putfield 90, 3) := by decide +kernel
theorem dc_M_init_239 : decode cd_M_init 239 = .ok (.aload_n 0, 1) := by decide +kernel
theorem dc_M_init_240 : decode cd_M_init 240 = .ok (.getfield 7, 3) := by decide +kernel
theorem dc_M_init_243 : decode cd_M_init 243 = .ok (.iconst 0, 1) := by decide +kernel
theorem dc_M_init_244 : decode cd_M_init 244 = .ok (.iconst 1, 1) := by decide +kernel
theorem dc_M_init_245 : decode cd_M_init 245 = .ok (.bastore, 1) := by decide +kernel
theorem dc_M_init_246 : decode cd_M_init 246 = .ok (.aload_n 0, 1) := by decide +kernel
theorem dc_M_init_247 : decode cd_M_init 247 = .ok (.getfield 13, 3) := by decide +kernel
theorem dc_M_init_250 : decode cd_M_init 250 = .ok (.iconst 0, 1) := by decide +kernel
theorem dc_M_init_251 : decode cd_M_init 251 = .ok (.iconst 1, 1) := by decide +kernel
theorem dc_M_init_252 : decode cd_M_init 252 = .ok (.iastore, 1) := by decide +kernel
theorem dc_M_init_253 : decode cd_M_init 253 = .ok (.aload_n 0, 1) := by decide +kernel
theorem dc_M_init_254 : decode cd_M_init 254 = .ok (.iconst 1, 1) := by decide +kernel
theorem dc_M_init_255 : decode cd_M_init 255 = .ok (.putfield 93, 3) := by decide +kernel
theorem dc_M_init_258 : decode cd_M_init 258 = .ok (.iconst 0, 1) := by decide +kernel
theorem dc_M_init_259 : decode cd_M_init 259 = .ok (.istore_n 3, 1) := by decide +kernel
theorem dc_M_init_260 : decode cd_M_init 260 = .ok (.iload_n 3, 1) := by decide +kernel
theorem dc_M_init_261 : decode cd_M_init 261 = .ok (.bipush 32, 2) := by decide +kernel
theorem dc_M_init_263 : decode cd_M_init 263 = .ok (.if_icmp .ge 23, 3) := by decide +kernel
theorem dc_M_init_266 : decode cd_M_init 266 = .ok (.aload_n 0, 1) := by decide +kernel
theorem dc_M_init_267 : decode cd_M_init 267 = .ok (.getfield 17, 3) := by decide +kernel
theorem dc_M_init_270 : decode cd_M_init 270 = .ok (.iload_n 3, 1) := by decide +kernel
theorem dc_M_init_271 : decode cd_M_init 271 = .ok (.iconst (-1), 1) := by decide +kernel
theorem dc_M_init_272 : decode cd_M_init 272 = .ok (.iastore, 1) := by decide +kernel
theorem dc_M_init_273 : decode cd_M_init 273 = .ok (.aload_n 0, 1) := by decide +kernel
theorem dc_M_init_274 : decode cd_M_init 274 = .ok (.getfield 20, 3) := by decide +kernel
theorem dc_M_init_277 : decode cd_M_init 277 = .ok (.iload_n 3, 1) := by decide +kernel
theorem dc_M_init_278 : decode cd_M_init 278 = .ok (.iconst (-1), 1) := by decide +kernel
theorem dc_M_init_279 : decode cd_M_init 279 = .ok (.iastore, 1) := by decide +kernel
theorem dc_M_init_280 : decode cd_M_init 280 = .ok (.iinc 3 1, 3) := by decide +kernel
theorem dc_M_init_283 : decode cd_M_init 283 = .ok (.goto (-23), 3) := by decide +kernel
theorem dc_M_init_286 : decode cd_M_init 286 = .ok (.iconst 0, 1) := by decide +kernel
theorem dc_M_init_287 : decode cd_M_init 287 = .ok (.istore_n 3, 1) := by decide +kernel
theorem dc_M_init_288 : decode cd_M_init 288 = .ok (.iload_n 3, 1) := by decide +kernel
theorem dc_M_init_289 : decode cd_M_init 289 = .ok (.iconst 5, 1) := by decide +kernel
theorem dc_M_init_290 : decode cd_M_init 290 = .ok (.if_icmp .ge 30, 3) := by decide +kernel
theorem dc_M_init_293 : decode cd_M_init 293 = .ok (.aload_n 0, 1) := by decide +kernel
theorem dc_M_init_294 : decode cd_M_init 294 = .ok (.getfield 35, 3) := by decide +kernel
theorem dc_M_init_297 : decode cd_M_init 297 = .ok (.iload_n 3, 1) := by decide +kernel
theorem dc_M_init_298 : decode cd_M_init 298 = .ok (.iconst (-1), 1) := by decide +kernel
theorem dc_M_init_299 : decode cd_M_init 299 = .ok (.iastore, 1) := by decide +kernel
theorem dc_M_init_300 : decode cd_M_init 300 = .ok (.aload_n 0, 1) := by decide +kernel
theorem dc_M_init_301 : decode cd_M_init 301 = .ok (.getfield 38, 3) := by decide +kernel
theorem dc_M_init_304 : decode cd_M_init 304 = .ok (.iload_n 3, 1) := by decide +kernel
theorem dc_M_init_305 : decode cd_M_init 305 = .ok (.iconst (-1), 1) := by decide +kernel
theorem dc_M_init_306 : decode cd_M_init 306 = .ok (.iastore, 1) := by decide +kernel
theorem dc_M_init_307 : decode cd_M_init 307 = .ok (.aload_n 0, 1) := by decide +kernel
theorem dc_M_init_308 : decode cd_M_init 308 = .ok (.getfield 68, 3) := by decide +kernel
theorem dc_M_init_311 : decode cd_M_init 311 = .ok (.iload_n 3, 1) := by decide +kernel
theorem dc_M_init_312 : decode cd_M_init 312 = .ok (.iconst (-1), 1) := by decide +kernel
theorem dc_M_init_313 : decode cd_M_init 313 = .ok (.iastore, 1) := by decide +kernel
theorem dc_M_init_314 : decode cd_M_init 314 = .ok (.iinc 3 1, 3) := by decide +kernel
theorem dc_M_init_317 : decode cd_M_init 317 = .ok (.goto (-29), 3) := by decide +kernel
theorem dc_M_init_320 : decode cd_M_init 320 = .ok (.aload_n 0, 1) := by decide +kernel
theorem dc_M_init_321 : decode cd_M_init 321 = .ok (.invokevirtual 96, 3) := by decide +kernel
theorem dc_M_init_324 : decode cd_M_init 324 = .ok (.iconst 0, 1) := by decide +kernel
theorem dc_M_init_325 : decode cd_M_init 325 = .ok (.istore_n 3, 1) := by decide +kernel
theorem dc_M_init_326 : decode cd_M_init 326 = .ok (.iload_n 3, 1) := by decide +kernel
theorem dc_M_init_327 : decode cd_M_init 327 = .ok (.bipush 8, 2) := by decide +kernel
theorem dc_M_init_329 : decode cd_M_init 329 = .ok (.if_icmp .ge 21, 3) := by decide +kernel
theorem dc_M_init_332 : decode cd_M_init 332 = .ok (.aload_n 0, 1) := by decide +kernel
theorem dc_M_init_333 : decode cd_M_init 333 = .ok (.getfield 83, 3) := by decide +kernel
theorem dc_M_init_336 : decode cd_M_init 336 = .ok (.iload_n 3, 1) := by decide +kernel
theorem dc_M_init_337 : decode cd_M_init 337 = .ok (.aload_n 0, 1) := by decide +kernel
theorem dc_M_init_338 : decode cd_M_init 338 = .ok (.getfield 80, 3) := by decide +kernel
theorem dc_M_init_341 : decode cd_M_init 341 = .ok (.iload_n 3, 1) := by decide +kernel
theorem dc_M_init_342 : decode cd_M_init 342 = .ok (.iaload, 1) := by decide +kernel
theorem dc_M_init_343 : decode cd_M_init 343 = .ok (.iastore, 1) := by decide +kernel
theorem dc_M_init_344 : decode cd_M_init 344 = .ok (.iinc 3 1, 3) := by decide +kernel
theorem dc_M_init_347 : decode cd_M_init 347 = .ok (.goto (-21), 3) := by decide +kernel
theorem dc_M_init_350 : decode cd_M_init 350 = .ok (.return_, 1) := by decide +kernel
theorem dc_M_thrown_0 : decode cd_M_thrown 0 = .ok (.aload_n 0, 1) := by decide +kernel
theorem dc_M_thrown_1 : decode cd_M_thrown 1 = .ok (.getfield 99, 3) := by decide +kernel
theorem dc_M_thrown_4 : decode cd_M_thrown 4 = .ok (.ireturn, 1) := by decide +kernel
theorem dc_M_refused_0 : decode cd_M_refused 0 = .ok (.aload_n 0, 1) := by decide +kernel
theorem dc_M_refused_1 : decode cd_M_refused 1 = .ok (.iload_n 1, 1) := by decide +kernel
theorem dc_M_refused_2 : decode cd_M_refused 2 = .ok (.putfield 99, 3) := by decide +kernel
theorem dc_M_refused_5 : decode cd_M_refused 5 = .ok (.iload_n 1, 1) := by decide +kernel
theorem dc_M_refused_6 : decode cd_M_refused 6 = .ok (.ifCond .le 7, 3) := by decide +kernel
theorem dc_M_refused_9 : decode cd_M_refused 9 = .ok (.iconst 1, 1) := by decide +kernel
theorem dc_M_refused_10 : decode cd_M_refused 10 = .ok (.goto 4, 3) := by decide +kernel
theorem dc_M_refused_13 : decode cd_M_refused 13 = .ok (.iconst 0, 1) := by decide +kernel
theorem dc_M_refused_14 : decode cd_M_refused 14 = .ok (.ireturn, 1) := by decide +kernel
theorem dc_M_isProcess_0 : decode cd_M_isProcess 0 = .ok (.iload_n 1, 1) := by decide +kernel
theorem dc_M_isProcess_1 : decode cd_M_isProcess 1 = .ok (.ifCond .lt 15, 3) := by decide +kernel
theorem dc_M_isProcess_4 : decode cd_M_isProcess 4 = .ok (.iload_n 1, 1) := by decide +kernel
theorem dc_M_isProcess_5 : decode cd_M_isProcess 5 = .ok (.aload_n 0, 1) := by decide +kernel
theorem dc_M_isProcess_6 : decode cd_M_isProcess 6 = .ok (.getfield 90, 3) := by decide +kernel
theorem dc_M_isProcess_9 : decode cd_M_isProcess 9 = .ok (.if_icmp .ge 7, 3) := by decide +kernel
theorem dc_M_isProcess_12 : decode cd_M_isProcess 12 = .ok (.iconst 1, 1) := by decide +kernel
theorem dc_M_isProcess_13 : decode cd_M_isProcess 13 = .ok (.goto 4, 3) := by decide +kernel
theorem dc_M_isProcess_16 : decode cd_M_isProcess 16 = .ok (.iconst 0, 1) := by decide +kernel
theorem dc_M_isProcess_17 : decode cd_M_isProcess 17 = .ok (.ireturn, 1) := by decide +kernel
theorem dc_M_begin_0 : decode cd_M_begin 0 = .ok (.aload_n 0, 1) := by decide +kernel
theorem dc_M_begin_1 : decode cd_M_begin 1 = .ok (.iconst 0, 1) := by decide +kernel
theorem dc_M_begin_2 : decode cd_M_begin 2 = .ok (.putfield 102, 3) := by decide +kernel
theorem dc_M_begin_5 : decode cd_M_begin 5 = .ok (.iconst 0, 1) := by decide +kernel
theorem dc_M_begin_6 : decode cd_M_begin 6 = .ok (.istore_n 1, 1) := by decide +kernel
theorem dc_M_begin_7 : decode cd_M_begin 7 = .ok (.iload_n 1, 1) := by decide +kernel
theorem dc_M_begin_8 : decode cd_M_begin 8 = .ok (.bipush 8, 2) := by decide +kernel
theorem dc_M_begin_10 : decode cd_M_begin 10 = .ok (.if_icmp .ge 29, 3) := by decide +kernel
theorem dc_M_begin_13 : decode cd_M_begin 13 = .ok (.aload_n 0, 1) := by decide +kernel
theorem dc_M_begin_14 : decode cd_M_begin 14 = .ok (.getfield 80, 3) := by decide +kernel
theorem dc_M_begin_17 : decode cd_M_begin 17 = .ok (.iload_n 1, 1) := by decide +kernel
theorem dc_M_begin_18 : decode cd_M_begin 18 = .ok (.aload_n 0, 1) := by decide +kernel
theorem dc_M_begin_19 : decode cd_M_begin 19 = .ok (.getfield 86, 3) := by decide +kernel
theorem dc_M_begin_22 : decode cd_M_begin 22 = .ok (.iconst 3, 1) := by decide +kernel
theorem dc_M_begin_23 : decode cd_M_begin 23 = .ok (.if_icmp .ne 8, 3) := by decide +kernel
theorem dc_M_begin_26 : decode cd_M_begin 26 = .ok (.bipush 100, 2) := by decide +kernel
theorem dc_M_begin_28 : decode cd_M_begin 28 = .ok (.goto 4, 3) := by decide +kernel
theorem dc_M_begin_31 : decode cd_M_begin 31 = .ok (.iconst 0, 1) := by decide +kernel
theorem dc_M_begin_32 : decode cd_M_begin 32 = .ok (.iastore, 1) := by decide +kernel
theorem dc_M_begin_33 : decode cd_M_begin 33 = .ok (.iinc 1 1, 3) := by decide +kernel
theorem dc_M_begin_36 : decode cd_M_begin 36 = .ok (.goto (-29), 3) := by decide +kernel
theorem dc_M_begin_39 : decode cd_M_begin 39 = .ok (.return_, 1) := by decide +kernel
theorem dc_M_queue_0 : decode cd_M_queue 0 = .ok (.iload_n 1, 1) := by decide +kernel
theorem dc_M_queue_1 : decode cd_M_queue 1 = .ok (.iconst 2, 1) := by decide +kernel
theorem dc_M_queue_2 : decode cd_M_queue 2 = .ok (.if_icmp .ne 8, 3) := by decide +kernel
theorem dc_M_queue_5 : decode cd_M_queue 5 = .ok (.aload_n 0, 1) := by decide +kernel
theorem dc_M_queue_6 : decode cd_M_queue 6 = .ok (.getfield 102, 3) := by decide +kernel
theorem dc_M_queue_9 : decode cd_M_queue 9 = .ok (.ireturn, 1) := by decide +kernel
theorem dc_M_queue_10 : decode cd_M_queue 10 = .ok (.iload_n 1, 1) := by decide +kernel
theorem dc_M_queue_11 : decode cd_M_queue 11 = .ok (.ifCond .ne 39, 3) := by decide +kernel
theorem dc_M_queue_14 : decode cd_M_queue 14 = .ok (.aload_n 0, 1) := by decide +kernel
theorem dc_M_queue_15 : decode cd_M_queue 15 = .ok (.getfield 102, 3) := by decide +kernel
theorem dc_M_queue_18 : decode cd_M_queue 18 = .ok (.bipush 8, 2) := by decide +kernel
theorem dc_M_queue_20 : decode cd_M_queue 20 = .ok (.if_icmp .ne 5, 3) := by decide +kernel
theorem dc_M_queue_23 : decode cd_M_queue 23 = .ok (.iconst (-1), 1) := by decide +kernel
theorem dc_M_queue_24 : decode cd_M_queue 24 = .ok (.ireturn, 1) := by decide +kernel
theorem dc_M_queue_25 : decode cd_M_queue 25 = .ok (.aload_n 0, 1) := by decide +kernel
theorem dc_M_queue_26 : decode cd_M_queue 26 = .ok (.getfield 80, 3) := by decide +kernel
theorem dc_M_queue_29 : decode cd_M_queue 29 = .ok (.aload_n 0, 1) := by decide +kernel
theorem dc_M_queue_30 : decode cd_M_queue 30 = .ok (.getfield 102, 3) := by decide +kernel
theorem dc_M_queue_33 : decode cd_M_queue 33 = .ok (.iload_n 2, 1) := by decide +kernel
theorem dc_M_queue_34 : decode cd_M_queue 34 = .ok (.iastore, 1) := by decide +kernel
theorem dc_M_queue_35 : decode cd_M_queue 35 = .ok (.aload_n 0, 1) := by decide +kernel
theorem dc_M_queue_36 : decode cd_M_queue 36 = .ok (.dup, 1) := by decide +kernel
theorem dc_M_queue_37 : decode cd_M_queue 37 = .ok (.getfield 102, 3) := by decide +kernel
theorem dc_M_queue_40 : decode cd_M_queue 40 = .ok (.iconst 1, 1) := by decide +kernel
theorem dc_M_queue_41 : decode cd_M_queue 41 = .ok (.iadd, 1) := by decide +kernel
theorem dc_M_queue_42 : decode cd_M_queue 42 = .ok (.putfield 102, 3) := by decide +kernel
theorem dc_M_queue_45 : decode cd_M_queue 45 = .ok (.aload_n 0, 1) := by decide +kernel
theorem dc_M_queue_46 : decode cd_M_queue 46 = .ok (.getfield 102, 3) := by decide +kernel
theorem dc_M_queue_49 : decode cd_M_queue 49 = .ok (.ireturn, 1) := by decide +kernel
theorem dc_M_queue_50 : decode cd_M_queue 50 = .ok (.aload_n 0, 1) := by decide +kernel
theorem dc_M_queue_51 : decode cd_M_queue 51 = .ok (.getfield 102, 3) := by decide +kernel
theorem dc_M_queue_54 : decode cd_M_queue 54 = .ok (.ifCond .ne 5, 3) := by decide +kernel
theorem dc_M_queue_57 : decode cd_M_queue 57 = .ok (.iconst (-1), 1) := by decide +kernel
theorem dc_M_queue_58 : decode cd_M_queue 58 = .ok (.ireturn, 1) := by decide +kernel
theorem dc_M_queue_59 : decode cd_M_queue 59 = .ok (.aload_n 0, 1) := by decide +kernel
theorem dc_M_queue_60 : decode cd_M_queue 60 = .ok (.dup, 1) := by decide +kernel
theorem dc_M_queue_61 : decode cd_M_queue 61 = .ok (.getfield 102, 3) := by decide +kernel
theorem dc_M_queue_64 : decode cd_M_queue 64 = .ok (.iconst 1, 1) := by decide +kernel
theorem dc_M_queue_65 : decode cd_M_queue 65 = .ok (.isub, 1) := by decide +kernel
theorem dc_M_queue_66 : decode cd_M_queue 66 = .ok (.putfield 102, 3) := by decide +kernel
theorem dc_M_queue_69 : decode cd_M_queue 69 = .ok (.aload_n 0, 1) := by decide +kernel
theorem dc_M_queue_70 : decode cd_M_queue 70 = .ok (.getfield 86, 3) := by decide +kernel
theorem dc_M_queue_73 : decode cd_M_queue 73 = .ok (.ifCond .ne 12, 3) := by decide +kernel
theorem dc_M_queue_76 : decode cd_M_queue 76 = .ok (.aload_n 0, 1) := by decide +kernel
theorem dc_M_queue_77 : decode cd_M_queue 77 = .ok (.getfield 80, 3) := by decide +kernel
theorem dc_M_queue_80 : decode cd_M_queue 80 = .ok (.iconst 0, 1) := by decide +kernel
theorem dc_M_queue_81 : decode cd_M_queue 81 = .ok (.iaload, 1) := by decide +kernel
theorem dc_M_queue_82 : decode cd_M_queue 82 = .ok (.goto 12, 3) := by decide +kernel
theorem dc_M_queue_85 : decode cd_M_queue 85 = .ok (.aload_n 0, 1) := by decide +kernel
theorem dc_M_queue_86 : decode cd_M_queue 86 = .ok (.getfield 80, 3) := by decide +kernel
theorem dc_M_queue_89 : decode cd_M_queue 89 = .ok (.aload_n 0, 1) := by decide +kernel
theorem dc_M_queue_90 : decode cd_M_queue 90 = .ok (.getfield 102, 3) := by decide +kernel
theorem dc_M_queue_93 : decode cd_M_queue 93 = .ok (.iaload, 1) := by decide +kernel
theorem dc_M_queue_94 : decode cd_M_queue 94 = .ok (.istore_n 3, 1) := by decide +kernel
theorem dc_M_queue_95 : decode cd_M_queue 95 = .ok (.iconst 0, 1) := by decide +kernel
theorem dc_M_queue_96 : decode cd_M_queue 96 = .ok (.istore 4, 2) := by decide +kernel
theorem dc_M_queue_98 : decode cd_M_queue 98 = .ok (.aload_n 0, 1) := by decide +kernel
theorem dc_M_queue_99 : decode cd_M_queue 99 = .ok (.getfield 86, 3) := by decide +kernel
theorem dc_M_queue_102 : decode cd_M_queue 102 = .ok (.ifCond .ne 34, 3) := by decide +kernel
theorem dc_M_queue_105 : decode cd_M_queue 105 = .ok (.iload 4, 2) := by decide +kernel
theorem dc_M_queue_107 : decode cd_M_queue 107 = .ok (.aload_n 0, 1) := by decide +kernel
theorem dc_M_queue_108 : decode cd_M_queue 108 = .ok (.getfield 102, 3) := by decide +kernel
theorem dc_M_queue_111 : decode cd_M_queue 111 = .ok (.if_icmp .ge 25, 3) := by decide +kernel
theorem dc_M_queue_114 : decode cd_M_queue 114 = .ok (.aload_n 0, 1) := by decide +kernel
theorem dc_M_queue_115 : decode cd_M_queue 115 = .ok (.getfield 80, 3) := by decide +kernel
theorem dc_M_queue_118 : decode cd_M_queue 118 = .ok (.iload 4, 2) := by decide +kernel
theorem dc_M_queue_120 : decode cd_M_queue 120 = .ok (.aload_n 0, 1) := by decide +kernel
theorem dc_M_queue_121 : decode cd_M_queue 121 = .ok (.getfield 80, 3) := by decide +kernel
theorem dc_M_queue_124 : decode cd_M_queue 124 = .ok (.iload 4, 2) := by decide +kernel
theorem dc_M_queue_126 : decode cd_M_queue 126 = .ok (.iconst 1, 1) := by decide +kernel
theorem dc_M_queue_127 : decode cd_M_queue 127 = .ok (.iadd, 1) := by decide +kernel
theorem dc_M_queue_128 : decode cd_M_queue 128 = .ok (.iaload, 1) := by decide +kernel
theorem dc_M_queue_129 : decode cd_M_queue 129 = .ok (.iastore, 1) := by decide +kernel
theorem dc_M_queue_130 : decode cd_M_queue 130 = .ok (.iinc 4 1, 3) := by decide +kernel
theorem dc_M_queue_133 : decode cd_M_queue 133 = .ok (.goto (-35), 3) := by decide +kernel
theorem dc_M_queue_136 : decode cd_M_queue 136 = .ok (.iload_n 3, 1) := by decide +kernel
theorem dc_M_queue_137 : decode cd_M_queue 137 = .ok (.ireturn, 1) := by decide +kernel
theorem dc_M_table_0 : decode cd_M_table 0 = .ok (.iconst 0, 1) := by decide +kernel
theorem dc_M_table_1 : decode cd_M_table 1 = .ok (.istore 4, 2) := by decide +kernel
theorem dc_M_table_3 : decode cd_M_table 3 = .ok (.iconst 0, 1) := by decide +kernel
theorem dc_M_table_4 : decode cd_M_table 4 = .ok (.istore 5, 2) := by decide +kernel
theorem dc_M_table_6 : decode cd_M_table 6 = .ok (.iload 5, 2) := by decide +kernel
theorem dc_M_table_8 : decode cd_M_table 8 = .ok (.bipush 8, 2) := by decide +kernel
theorem dc_M_table_10 : decode cd_M_table 10 = .ok (.if_icmp .ge 21, 3) := by decide +kernel
theorem dc_M_table_13 : decode cd_M_table 13 = .ok (.iload 4, 2) := by decide +kernel
theorem dc_M_table_15 : decode cd_M_table 15 = .ok (.aload_n 0, 1) := by decide +kernel
theorem dc_M_table_16 : decode cd_M_table 16 = .ok (.getfield 80, 3) := by decide +kernel
theorem dc_M_table_19 : decode cd_M_table 19 = .ok (.iload 5, 2) := by decide +kernel
theorem dc_M_table_21 : decode cd_M_table 21 = .ok (.iaload, 1) := by decide +kernel
theorem dc_M_table_22 : decode cd_M_table 22 = .ok (.iadd, 1) := by decide +kernel
theorem dc_M_table_23 : decode cd_M_table 23 = .ok (.istore 4, 2) := by decide +kernel
theorem dc_M_table_25 : decode cd_M_table 25 = .ok (.iinc 5 1, 3) := by decide +kernel
theorem dc_M_table_28 : decode cd_M_table 28 = .ok (.goto (-22), 3) := by decide +kernel
theorem dc_M_table_31 : decode cd_M_table 31 = .ok (.aload_n 0, 1) := by decide +kernel
theorem dc_M_table_32 : decode cd_M_table 32 = .ok (.getfield 80, 3) := by decide +kernel
theorem dc_M_table_35 : decode cd_M_table 35 = .ok (.iload_n 2, 1) := by decide +kernel
theorem dc_M_table_36 : decode cd_M_table 36 = .ok (.bipush 7, 2) := by decide +kernel
theorem dc_M_table_38 : decode cd_M_table 38 = .ok (.iand, 1) := by decide +kernel
theorem dc_M_table_39 : decode cd_M_table 39 = .ok (.iaload, 1) := by decide +kernel
theorem dc_M_table_40 : decode cd_M_table 40 = .ok (.istore 5, 2) := by decide +kernel
theorem dc_M_table_42 : decode cd_M_table 42 = .ok (.iload_n 1, 1) := by decide +kernel
theorem dc_M_table_43 : decode cd_M_table 43 = .ok (.ifCond .ne 13, 3) := by decide +kernel
theorem dc_M_table_46 : decode cd_M_table 46 = .ok (.aload_n 0, 1) := by decide +kernel
theorem dc_M_table_47 : decode cd_M_table 47 = .ok (.getfield 80, 3) := by decide +kernel
theorem dc_M_table_50 : decode cd_M_table 50 = .ok (.iload_n 2, 1) := by decide +kernel
theorem dc_M_table_51 : decode cd_M_table 51 = .ok (.bipush 7, 2) := by decide +kernel
theorem dc_M_table_53 : decode cd_M_table 53 = .ok (.iand, 1) := by decide +kernel
theorem dc_M_table_54 : decode cd_M_table 54 = .ok (.iload_n 3, 1) := by decide +kernel
theorem dc_M_table_55 : decode cd_M_table 55 = .ok (.iastore, 1) := by decide +kernel
theorem dc_M_table_56 : decode cd_M_table 56 = .ok (.iload_n 1, 1) := by decide +kernel
theorem dc_M_table_57 : decode cd_M_table 57 = .ok (.iconst 2, 1) := by decide +kernel
theorem dc_M_table_58 : decode cd_M_table 58 = .ok (.if_icmp .ne 8, 3) := by decide +kernel
theorem dc_M_table_61 : decode cd_M_table 61 = .ok (.iload 4, 2) := by decide +kernel
theorem dc_M_table_63 : decode cd_M_table 63 = .ok (.goto 5, 3) := by decide +kernel
theorem dc_M_table_66 : decode cd_M_table 66 = .ok (.iload 5, 2) := by decide +kernel
theorem dc_M_table_68 : decode cd_M_table 68 = .ok (.ireturn, 1) := by decide +kernel
theorem dc_M_bank_0 : decode cd_M_bank 0 = .ok (.iload_n 2, 1) := by decide +kernel
theorem dc_M_bank_1 : decode cd_M_bank 1 = .ok (.iconst 3, 1) := by decide +kernel
theorem dc_M_bank_2 : decode cd_M_bank 2 = .ok (.iand, 1) := by decide +kernel
theorem dc_M_bank_3 : decode cd_M_bank 3 = .ok (.istore 4, 2) := by decide +kernel
theorem dc_M_bank_5 : decode cd_M_bank 5 = .ok (.iload_n 1, 1) := by decide +kernel
theorem dc_M_bank_6 : decode cd_M_bank 6 = .ok (.ifCond .ne 55, 3) := by decide +kernel
theorem dc_M_bank_9 : decode cd_M_bank 9 = .ok (.aload_n 0, 1) := by decide +kernel
theorem dc_M_bank_10 : decode cd_M_bank 10 = .ok (.getfield 80, 3) := by decide +kernel
theorem dc_M_bank_13 : decode cd_M_bank 13 = .ok (.iload 4, 2) := by decide +kernel
theorem dc_M_bank_15 : decode cd_M_bank 15 = .ok (.iaload, 1) := by decide +kernel
theorem dc_M_bank_16 : decode cd_M_bank 16 = .ok (.bipush 10, 2) := by decide +kernel
theorem dc_M_bank_18 : decode cd_M_bank 18 = .ok (.if_icmp .ge 5, 3) := by decide +kernel
theorem dc_M_bank_21 : decode cd_M_bank 21 = .ok (.iconst 0, 1) := by decide +kernel
theorem dc_M_bank_22 : decode cd_M_bank 22 = .ok (.ireturn, 1) := by decide +kernel
theorem dc_M_bank_23 : decode cd_M_bank 23 = .ok (.aload_n 0, 1) := by decide +kernel
theorem dc_M_bank_24 : decode cd_M_bank 24 = .ok (.getfield 80, 3) := by decide +kernel
theorem dc_M_bank_27 : decode cd_M_bank 27 = .ok (.iload 4, 2) := by decide +kernel
theorem dc_M_bank_29 : decode cd_M_bank 29 = .ok (.aload_n 0, 1) := by decide +kernel
theorem dc_M_bank_30 : decode cd_M_bank 30 = .ok (.getfield 80, 3) := by decide +kernel
theorem dc_M_bank_33 : decode cd_M_bank 33 = .ok (.iload 4, 2) := by decide +kernel
theorem dc_M_bank_35 : decode cd_M_bank 35 = .ok (.iaload, 1) := by decide +kernel
theorem dc_M_bank_36 : decode cd_M_bank 36 = .ok (.bipush 10, 2) := by decide +kernel
theorem dc_M_bank_38 : decode cd_M_bank 38 = .ok (.isub, 1) := by decide +kernel
theorem dc_M_bank_39 : decode cd_M_bank 39 = .ok (.iastore, 1) := by decide +kernel
theorem dc_M_bank_40 : decode cd_M_bank 40 = .ok (.aload_n 0, 1) := by decide +kernel
theorem dc_M_bank_41 : decode cd_M_bank 41 = .ok (.getfield 80, 3) := by decide +kernel
theorem dc_M_bank_44 : decode cd_M_bank 44 = .ok (.iload_n 3, 1) := by decide +kernel
theorem dc_M_bank_45 : decode cd_M_bank 45 = .ok (.iconst 3, 1) := by decide +kernel
theorem dc_M_bank_46 : decode cd_M_bank 46 = .ok (.iand, 1) := by decide +kernel
theorem dc_M_bank_47 : decode cd_M_bank 47 = .ok (.aload_n 0, 1) := by decide +kernel
theorem dc_M_bank_48 : decode cd_M_bank 48 = .ok (.getfield 80, 3) := by decide +kernel
theorem dc_M_bank_51 : decode cd_M_bank 51 = .ok (.iload_n 3, 1) := by decide +kernel
theorem dc_M_bank_52 : decode cd_M_bank 52 = .ok (.iconst 3, 1) := by decide +kernel
theorem dc_M_bank_53 : decode cd_M_bank 53 = .ok (.iand, 1) := by decide +kernel
theorem dc_M_bank_54 : decode cd_M_bank 54 = .ok (.iaload, 1) := by decide +kernel
theorem dc_M_bank_55 : decode cd_M_bank 55 = .ok (.bipush 10, 2) := by decide +kernel
theorem dc_M_bank_57 : decode cd_M_bank 57 = .ok (.iadd, 1) := by decide +kernel
theorem dc_M_bank_58 : decode cd_M_bank 58 = .ok (.iastore, 1) := by decide +kernel
theorem dc_M_bank_59 : decode cd_M_bank 59 = .ok (.iconst 1, 1) := by decide +kernel
theorem dc_M_bank_60 : decode cd_M_bank 60 = .ok (.ireturn, 1) := by decide +kernel
theorem dc_M_bank_61 : decode cd_M_bank 61 = .ok (.iload_n 1, 1) := by decide +kernel
theorem dc_M_bank_62 : decode cd_M_bank 62 = .ok (.iconst 2, 1) := by decide +kernel
theorem dc_M_bank_63 : decode cd_M_bank 63 = .ok (.if_icmp .ne 19, 3) := by decide +kernel
theorem dc_M_bank_66 : decode cd_M_bank 66 = .ok (.aload_n 0, 1) := by decide +kernel
theorem dc_M_bank_67 : decode cd_M_bank 67 = .ok (.getfield 80, 3) := by decide +kernel
theorem dc_M_bank_70 : decode cd_M_bank 70 = .ok (.iload 4, 2) := by decide +kernel
theorem dc_M_bank_72 : decode cd_M_bank 72 = .ok (.aload_n 0, 1) := by decide +kernel
theorem dc_M_bank_73 : decode cd_M_bank 73 = .ok (.getfield 80, 3) := by decide +kernel
theorem dc_M_bank_76 : decode cd_M_bank 76 = .ok (.iload 4, 2) := by decide +kernel
theorem dc_M_bank_78 : decode cd_M_bank 78 = .ok (.iaload, 1) := by decide +kernel
theorem dc_M_bank_79 : decode cd_M_bank 79 = .ok (.iload_n 3, 1) := by decide +kernel
theorem dc_M_bank_80 : decode cd_M_bank 80 = .ok (.iadd, 1) := by decide +kernel
theorem dc_M_bank_81 : decode cd_M_bank 81 = .ok (.iastore, 1) := by decide +kernel
theorem dc_M_bank_82 : decode cd_M_bank 82 = .ok (.aload_n 0, 1) := by decide +kernel
theorem dc_M_bank_83 : decode cd_M_bank 83 = .ok (.getfield 80, 3) := by decide +kernel
theorem dc_M_bank_86 : decode cd_M_bank 86 = .ok (.iload 4, 2) := by decide +kernel
theorem dc_M_bank_88 : decode cd_M_bank 88 = .ok (.iaload, 1) := by decide +kernel
theorem dc_M_bank_89 : decode cd_M_bank 89 = .ok (.ireturn, 1) := by decide +kernel
theorem dc_M_act_0 : decode cd_M_act 0 = .ok (.aload_n 0, 1) := by decide +kernel
theorem dc_M_act_1 : decode cd_M_act 1 = .ok (.getfield 86, 3) := by decide +kernel
theorem dc_M_act_4 : decode cd_M_act 4 = .ok (.iconst 2, 1) := by decide +kernel
theorem dc_M_act_5 : decode cd_M_act 5 = .ok (.if_icmp .ge 12, 3) := by decide +kernel
theorem dc_M_act_8 : decode cd_M_act 8 = .ok (.aload_n 0, 1) := by decide +kernel
theorem dc_M_act_9 : decode cd_M_act 9 = .ok (.iload_n 1, 1) := by decide +kernel
theorem dc_M_act_10 : decode cd_M_act 10 = .ok (.iload_n 2, 1) := by decide +kernel
theorem dc_M_act_11 : decode cd_M_act 11 = .ok (.invokevirtual 105, 3) := by decide +kernel
theorem dc_M_act_14 : decode cd_M_act 14 = .ok (.goto 28, 3) := by decide +kernel
theorem dc_M_act_17 : decode cd_M_act 17 = .ok (.aload_n 0, 1) := by decide +kernel
theorem dc_M_act_18 : decode cd_M_act 18 = .ok (.getfield 86, 3) := by decide +kernel
theorem dc_M_act_21 : decode cd_M_act 21 = .ok (.iconst 2, 1) := by decide +kernel
theorem dc_M_act_22 : decode cd_M_act 22 = .ok (.if_icmp .ne 13, 3) := by decide +kernel
theorem dc_M_act_25 : decode cd_M_act 25 = .ok (.aload_n 0, 1) := by decide +kernel
theorem dc_M_act_26 : decode cd_M_act 26 = .ok (.iload_n 1, 1) := by decide +kernel
theorem dc_M_act_27 : decode cd_M_act 27 = .ok (.iload_n 2, 1) := by decide +kernel
theorem dc_M_act_28 : decode cd_M_act 28 = .ok (.iload_n 3, 1) := by decide +kernel
theorem dc_M_act_29 : decode cd_M_act 29 = .ok (.invokevirtual 109, 3) := by decide +kernel
theorem dc_M_act_32 : decode cd_M_act 32 = .ok (.goto 10, 3) := by decide +kernel
theorem dc_M_act_35 : decode cd_M_act 35 = .ok (.aload_n 0, 1) := by decide +kernel
theorem dc_M_act_36 : decode cd_M_act 36 = .ok (.iload_n 1, 1) := by decide +kernel
theorem dc_M_act_37 : decode cd_M_act 37 = .ok (.iload_n 2, 1) := by decide +kernel
theorem dc_M_act_38 : decode cd_M_act 38 = .ok (.iload_n 3, 1) := by decide +kernel
theorem dc_M_act_39 : decode cd_M_act 39 = .ok (.invokevirtual 113, 3) := by decide +kernel
theorem dc_M_act_42 : decode cd_M_act 42 = .ok (.ireturn, 1) := by decide +kernel
theorem dc_M_replay_0 : decode cd_M_replay 0 = .ok (.aload_n 0, 1) := by decide +kernel
theorem dc_M_replay_1 : decode cd_M_replay 1 = .ok (.invokevirtual 96, 3) := by decide +kernel
theorem dc_M_replay_4 : decode cd_M_replay 4 = .ok (.iconst 0, 1) := by decide +kernel
theorem dc_M_replay_5 : decode cd_M_replay 5 = .ok (.istore_n 2, 1) := by decide +kernel
theorem dc_M_replay_6 : decode cd_M_replay 6 = .ok (.iconst 2, 1) := by decide +kernel
theorem dc_M_replay_7 : decode cd_M_replay 7 = .ok (.istore_n 3, 1) := by decide +kernel
theorem dc_M_replay_8 : decode cd_M_replay 8 = .ok (.iload_n 3, 1) := by decide +kernel
theorem dc_M_replay_9 : decode cd_M_replay 9 = .ok (.iload_n 1, 1) := by decide +kernel
theorem dc_M_replay_10 : decode cd_M_replay 10 = .ok (.if_icmp .gt 32, 3) := by decide +kernel
theorem dc_M_replay_13 : decode cd_M_replay 13 = .ok (.aload_n 0, 1) := by decide +kernel
theorem dc_M_replay_14 : decode cd_M_replay 14 = .ok (.aload_n 0, 1) := by decide +kernel
theorem dc_M_replay_15 : decode cd_M_replay 15 = .ok (.getfield 71, 3) := by decide +kernel
theorem dc_M_replay_18 : decode cd_M_replay 18 = .ok (.iload_n 3, 1) := by decide +kernel
theorem dc_M_replay_19 : decode cd_M_replay 19 = .ok (.iaload, 1) := by decide +kernel
theorem dc_M_replay_20 : decode cd_M_replay 20 = .ok (.aload_n 0, 1) := by decide +kernel
theorem dc_M_replay_21 : decode cd_M_replay 21 = .ok (.getfield 74, 3) := by decide +kernel
theorem dc_M_replay_24 : decode cd_M_replay 24 = .ok (.iload_n 3, 1) := by decide +kernel
theorem dc_M_replay_25 : decode cd_M_replay 25 = .ok (.iaload, 1) := by decide +kernel
theorem dc_M_replay_26 : decode cd_M_replay 26 = .ok (.aload_n 0, 1) := by decide +kernel
theorem dc_M_replay_27 : decode cd_M_replay 27 = .ok (.getfield 77, 3) := by decide +kernel
theorem dc_M_replay_30 : decode cd_M_replay 30 = .ok (.iload_n 3, 1) := by decide +kernel
theorem dc_M_replay_31 : decode cd_M_replay 31 = .ok (.iaload, 1) := by decide +kernel
theorem dc_M_replay_32 : decode cd_M_replay 32 = .ok (.invokevirtual 116, 3) := by decide +kernel
theorem dc_M_replay_35 : decode cd_M_replay 35 = .ok (.istore_n 2, 1) := by decide +kernel
theorem dc_M_replay_36 : decode cd_M_replay 36 = .ok (.iinc 3 1, 3) := by decide +kernel
theorem dc_M_replay_39 : decode cd_M_replay 39 = .ok (.goto (-31), 3) := by decide +kernel
theorem dc_M_replay_42 : decode cd_M_replay 42 = .ok (.iload_n 2, 1) := by decide +kernel
theorem dc_M_replay_43 : decode cd_M_replay 43 = .ok (.ireturn, 1) := by decide +kernel
theorem dc_M_call_0 : decode cd_M_call 0 = .ok (.aload_n 0, 1) := by decide +kernel
theorem dc_M_call_1 : decode cd_M_call 1 = .ok (.aload_n 0, 1) := by decide +kernel
theorem dc_M_call_2 : decode cd_M_call 2 = .ok (.iload_n 1, 1) := by decide +kernel
theorem dc_M_call_3 : decode cd_M_call 3 = .ok (.invokevirtual 119, 3) := by decide +kernel
theorem dc_M_call_6 : decode cd_M_call 6 = .ok (.ifCond .ne 7, 3) := by decide +kernel
theorem dc_M_call_9 : decode cd_M_call 9 = .ok (.iconst 1, 1) := by decide +kernel
theorem dc_M_call_10 : decode cd_M_call 10 = .ok (.goto 31, 3) := by decide +kernel
theorem dc_M_call_13 : decode cd_M_call 13 = .ok (.iload_n 2, 1) := by decide +kernel
theorem dc_M_call_14 : decode cd_M_call 14 = .ok (.ifCond .lt 8, 3) := by decide +kernel
theorem dc_M_call_17 : decode cd_M_call 17 = .ok (.iload_n 2, 1) := by decide +kernel
theorem dc_M_call_18 : decode cd_M_call 18 = .ok (.iconst 2, 1) := by decide +kernel
theorem dc_M_call_19 : decode cd_M_call 19 = .ok (.if_icmp .le 7, 3) := by decide +kernel
theorem dc_M_call_22 : decode cd_M_call 22 = .ok (.iconst 2, 1) := by decide +kernel
theorem dc_M_call_23 : decode cd_M_call 23 = .ok (.goto 18, 3) := by decide +kernel
theorem dc_M_call_26 : decode cd_M_call 26 = .ok (.aload_n 0, 1) := by decide +kernel
theorem dc_M_call_27 : decode cd_M_call 27 = .ok (.getfield 38, 3) := by decide +kernel
theorem dc_M_call_30 : decode cd_M_call 30 = .ok (.iload_n 1, 1) := by decide +kernel
theorem dc_M_call_31 : decode cd_M_call 31 = .ok (.iaload, 1) := by decide +kernel
theorem dc_M_call_32 : decode cd_M_call 32 = .ok (.iconst (-1), 1) := by decide +kernel
theorem dc_M_call_33 : decode cd_M_call 33 = .ok (.if_icmp .eq 7, 3) := by decide +kernel
theorem dc_M_call_36 : decode cd_M_call 36 = .ok (.iconst 3, 1) := by decide +kernel
theorem dc_M_call_37 : decode cd_M_call 37 = .ok (.goto 4, 3) := by decide +kernel
theorem dc_M_call_40 : decode cd_M_call 40 = .ok (.iconst 0, 1) := by decide +kernel
theorem dc_M_call_41 : decode cd_M_call 41 = .ok (.invokevirtual 123, 3) := by decide +kernel
theorem dc_M_call_44 : decode cd_M_call 44 = .ok (.ifCond .eq 4, 3) := by decide +kernel
theorem dc_M_call_47 : decode cd_M_call 47 = .ok (.return_, 1) := by decide +kernel
theorem dc_M_call_48 : decode cd_M_call 48 = .ok (.aload_n 0, 1) := by decide +kernel
theorem dc_M_call_49 : decode cd_M_call 49 = .ok (.getfield 38, 3) := by decide +kernel
theorem dc_M_call_52 : decode cd_M_call 52 = .ok (.iload_n 1, 1) := by decide +kernel
theorem dc_M_call_53 : decode cd_M_call 53 = .ok (.iconst 0, 1) := by decide +kernel
theorem dc_M_call_54 : decode cd_M_call 54 = .ok (.iastore, 1) := by decide +kernel
theorem dc_M_call_55 : decode cd_M_call 55 = .ok (.aload_n 0, 1) := by decide +kernel
theorem dc_M_call_56 : decode cd_M_call 56 = .ok (.getfield 53, 3) := by decide +kernel
theorem dc_M_call_59 : decode cd_M_call 59 = .ok (.iload_n 1, 1) := by decide +kernel
theorem dc_M_call_60 : decode cd_M_call 60 = .ok (.iload_n 2, 1) := by decide +kernel
theorem dc_M_call_61 : decode cd_M_call 61 = .ok (.iastore, 1) := by decide +kernel
theorem dc_M_call_62 : decode cd_M_call 62 = .ok (.aload_n 0, 1) := by decide +kernel
theorem dc_M_call_63 : decode cd_M_call 63 = .ok (.getfield 56, 3) := by decide +kernel
theorem dc_M_call_66 : decode cd_M_call 66 = .ok (.iload_n 1, 1) := by decide +kernel
theorem dc_M_call_67 : decode cd_M_call 67 = .ok (.iload_n 3, 1) := by decide +kernel
theorem dc_M_call_68 : decode cd_M_call 68 = .ok (.iastore, 1) := by decide +kernel
theorem dc_M_call_69 : decode cd_M_call 69 = .ok (.aload_n 0, 1) := by decide +kernel
theorem dc_M_call_70 : decode cd_M_call 70 = .ok (.getfield 59, 3) := by decide +kernel
theorem dc_M_call_73 : decode cd_M_call 73 = .ok (.iload_n 1, 1) := by decide +kernel
theorem dc_M_call_74 : decode cd_M_call 74 = .ok (.iload 4, 2) := by decide +kernel
theorem dc_M_call_76 : decode cd_M_call 76 = .ok (.iastore, 1) := by decide +kernel
theorem dc_M_call_77 : decode cd_M_call 77 = .ok (.return_, 1) := by decide +kernel
theorem dc_M_announce_0 : decode cd_M_announce 0 = .ok (.iconst (-1), 1) := by decide +kernel
theorem dc_M_announce_1 : decode cd_M_announce 1 = .ok (.istore_n 2, 1) := by decide +kernel
theorem dc_M_announce_2 : decode cd_M_announce 2 = .ok (.bipush 31, 2) := by decide +kernel
theorem dc_M_announce_4 : decode cd_M_announce 4 = .ok (.istore_n 3, 1) := by decide +kernel
theorem dc_M_announce_5 : decode cd_M_announce 5 = .ok (.iload_n 3, 1) := by decide +kernel
theorem dc_M_announce_6 : decode cd_M_announce 6 = .ok (.ifCond .lt 24, 3) := by decide +kernel
theorem dc_M_announce_9 : decode cd_M_announce 9 = .ok (.aload_n 0, 1) := by decide +kernel
theorem dc_M_announce_10 : decode cd_M_announce 10 = .ok (.getfield 7, 3) := by decide +kernel
theorem dc_M_announce_13 : decode cd_M_announce 13 = .ok (.iload_n 3, 1) := by decide +kernel
theorem dc_M_announce_14 : decode cd_M_announce 14 = .ok (.baload, 1) := by decide +kernel
theorem dc_M_announce_15 : decode cd_M_announce 15 = .ok (.ifCond .eq 7, 3) := by decide +kernel
theorem dc_M_announce_18 : decode cd_M_announce 18 = .ok (.iload_n 2, 1) := by decide +kernel
theorem dc_M_announce_19 : decode cd_M_announce 19 = .ok (.goto 4, 3) := by decide +kernel
theorem dc_M_announce_22 : decode cd_M_announce 22 = .ok (.iload_n 3, 1) := by decide +kernel
theorem dc_M_announce_23 : decode cd_M_announce 23 = .ok (.istore_n 2, 1) := by decide +kernel
theorem dc_M_announce_24 : decode cd_M_announce 24 = .ok (.iinc 3 (-1), 3) := by decide +kernel
theorem dc_M_announce_27 : decode cd_M_announce 27 = .ok (.goto (-22), 3) := by decide +kernel
theorem dc_M_announce_30 : decode cd_M_announce 30 = .ok (.iload_n 2, 1) := by decide +kernel
theorem dc_M_announce_31 : decode cd_M_announce 31 = .ok (.ifCond .ge 5, 3) := by decide +kernel
theorem dc_M_announce_34 : decode cd_M_announce 34 = .ok (.iconst 3, 1) := by decide +kernel
theorem dc_M_announce_35 : decode cd_M_announce 35 = .ok (.ireturn, 1) := by decide +kernel
theorem dc_M_announce_36 : decode cd_M_announce 36 = .ok (.aload_n 0, 1) := by decide +kernel
theorem dc_M_announce_37 : decode cd_M_announce 37 = .ok (.getfield 7, 3) := by decide +kernel
theorem dc_M_announce_40 : decode cd_M_announce 40 = .ok (.iload_n 2, 1) := by decide +kernel
theorem dc_M_announce_41 : decode cd_M_announce 41 = .ok (.iconst 1, 1) := by decide +kernel
theorem dc_M_announce_42 : decode cd_M_announce 42 = .ok (.bastore, 1) := by decide +kernel
theorem dc_M_announce_43 : decode cd_M_announce 43 = .ok (.aload_n 0, 1) := by decide +kernel
theorem dc_M_announce_44 : decode cd_M_announce 44 = .ok (.getfield 13, 3) := by decide +kernel
theorem dc_M_announce_47 : decode cd_M_announce 47 = .ok (.iload_n 2, 1) := by decide +kernel
theorem dc_M_announce_48 : decode cd_M_announce 48 = .ok (.iconst 0, 1) := by decide +kernel
theorem dc_M_announce_49 : decode cd_M_announce 49 = .ok (.iastore, 1) := by decide +kernel
theorem dc_M_announce_50 : decode cd_M_announce 50 = .ok (.aload_n 0, 1) := by decide +kernel
theorem dc_M_announce_51 : decode cd_M_announce 51 = .ok (.getfield 17, 3) := by decide +kernel
theorem dc_M_announce_54 : decode cd_M_announce 54 = .ok (.iload_n 2, 1) := by decide +kernel
theorem dc_M_announce_55 : decode cd_M_announce 55 = .ok (.iconst (-1), 1) := by decide +kernel
theorem dc_M_announce_56 : decode cd_M_announce 56 = .ok (.iastore, 1) := by decide +kernel
theorem dc_M_announce_57 : decode cd_M_announce 57 = .ok (.aload_n 0, 1) := by decide +kernel
theorem dc_M_announce_58 : decode cd_M_announce 58 = .ok (.getfield 20, 3) := by decide +kernel
theorem dc_M_announce_61 : decode cd_M_announce 61 = .ok (.iload_n 2, 1) := by decide +kernel
theorem dc_M_announce_62 : decode cd_M_announce 62 = .ok (.iload_n 1, 1) := by decide +kernel
theorem dc_M_announce_63 : decode cd_M_announce 63 = .ok (.iastore, 1) := by decide +kernel
theorem dc_M_announce_64 : decode cd_M_announce 64 = .ok (.aload_n 0, 1) := by decide +kernel
theorem dc_M_announce_65 : decode cd_M_announce 65 = .ok (.getfield 23, 3) := by decide +kernel
theorem dc_M_announce_68 : decode cd_M_announce 68 = .ok (.iload_n 2, 1) := by decide +kernel
theorem dc_M_announce_69 : decode cd_M_announce 69 = .ok (.aload_n 0, 1) := by decide +kernel
theorem dc_M_announce_70 : decode cd_M_announce 70 = .ok (.getfield 53, 3) := by decide +kernel
theorem dc_M_announce_73 : decode cd_M_announce 73 = .ok (.iload_n 1, 1) := by decide +kernel
theorem dc_M_announce_74 : decode cd_M_announce 74 = .ok (.iaload, 1) := by decide +kernel
theorem dc_M_announce_75 : decode cd_M_announce 75 = .ok (.iastore, 1) := by decide +kernel
theorem dc_M_announce_76 : decode cd_M_announce 76 = .ok (.aload_n 0, 1) := by decide +kernel
theorem dc_M_announce_77 : decode cd_M_announce 77 = .ok (.getfield 26, 3) := by decide +kernel
theorem dc_M_announce_80 : decode cd_M_announce 80 = .ok (.iload_n 2, 1) := by decide +kernel
theorem dc_M_announce_81 : decode cd_M_announce 81 = .ok (.aload_n 0, 1) := by decide +kernel
theorem dc_M_announce_82 : decode cd_M_announce 82 = .ok (.getfield 56, 3) := by decide +kernel
theorem dc_M_announce_85 : decode cd_M_announce 85 = .ok (.iload_n 1, 1) := by decide +kernel
theorem dc_M_announce_86 : decode cd_M_announce 86 = .ok (.iaload, 1) := by decide +kernel
theorem dc_M_announce_87 : decode cd_M_announce 87 = .ok (.iastore, 1) := by decide +kernel
theorem dc_M_announce_88 : decode cd_M_announce 88 = .ok (.aload_n 0, 1) := by decide +kernel
theorem dc_M_announce_89 : decode cd_M_announce 89 = .ok (.getfield 29, 3) := by decide +kernel
theorem dc_M_announce_92 : decode cd_M_announce 92 = .ok (.iload_n 2, 1) := by decide +kernel
theorem dc_M_announce_93 : decode cd_M_announce 93 = .ok (.aload_n 0, 1) := by decide +kernel
theorem dc_M_announce_94 : decode cd_M_announce 94 = .ok (.getfield 59, 3) := by decide +kernel
theorem dc_M_announce_97 : decode cd_M_announce 97 = .ok (.iload_n 1, 1) := by decide +kernel
theorem dc_M_announce_98 : decode cd_M_announce 98 = .ok (.iaload, 1) := by decide +kernel
theorem dc_M_announce_99 : decode cd_M_announce 99 = .ok (.iastore, 1) := by decide +kernel
theorem dc_M_announce_100 : decode cd_M_announce 100 = .ok (.aload_n 0, 1) := by decide +kernel
theorem dc_M_announce_101 : decode cd_M_announce 101 = .ok (.getfield 44, 3) := by decide +kernel
theorem dc_M_announce_104 : decode cd_M_announce 104 = .ok (.iload_n 1, 1) := by decide +kernel
theorem dc_M_announce_105 : decode cd_M_announce 105 = .ok (.iload_n 2, 1) := by decide +kernel
theorem dc_M_announce_106 : decode cd_M_announce 106 = .ok (.iastore, 1) := by decide +kernel
theorem dc_M_announce_107 : decode cd_M_announce 107 = .ok (.aload_n 0, 1) := by decide +kernel
theorem dc_M_announce_108 : decode cd_M_announce 108 = .ok (.getfield 35, 3) := by decide +kernel
theorem dc_M_announce_111 : decode cd_M_announce 111 = .ok (.iload_n 1, 1) := by decide +kernel
theorem dc_M_announce_112 : decode cd_M_announce 112 = .ok (.iload_n 2, 1) := by decide +kernel
theorem dc_M_announce_113 : decode cd_M_announce 113 = .ok (.iastore, 1) := by decide +kernel
theorem dc_M_announce_114 : decode cd_M_announce 114 = .ok (.aload_n 0, 1) := by decide +kernel
theorem dc_M_announce_115 : decode cd_M_announce 115 = .ok (.getfield 47, 3) := by decide +kernel
theorem dc_M_announce_118 : decode cd_M_announce 118 = .ok (.iload_n 1, 1) := by decide +kernel
theorem dc_M_announce_119 : decode cd_M_announce 119 = .ok (.aload_n 0, 1) := by decide +kernel
theorem dc_M_announce_120 : decode cd_M_announce 120 = .ok (.getfield 32, 3) := by decide +kernel
theorem dc_M_announce_123 : decode cd_M_announce 123 = .ok (.iload_n 1, 1) := by decide +kernel
theorem dc_M_announce_124 : decode cd_M_announce 124 = .ok (.iaload, 1) := by decide +kernel
theorem dc_M_announce_125 : decode cd_M_announce 125 = .ok (.iastore, 1) := by decide +kernel
theorem dc_M_announce_126 : decode cd_M_announce 126 = .ok (.aload_n 0, 1) := by decide +kernel
theorem dc_M_announce_127 : decode cd_M_announce 127 = .ok (.getfield 41, 3) := by decide +kernel
theorem dc_M_announce_130 : decode cd_M_announce 130 = .ok (.iload_n 1, 1) := by decide +kernel
theorem dc_M_announce_131 : decode cd_M_announce 131 = .ok (.iconst 0, 1) := by decide +kernel
theorem dc_M_announce_132 : decode cd_M_announce 132 = .ok (.iastore, 1) := by decide +kernel
theorem dc_M_announce_133 : decode cd_M_announce 133 = .ok (.aload_n 0, 1) := by decide +kernel
theorem dc_M_announce_134 : decode cd_M_announce 134 = .ok (.getfield 38, 3) := by decide +kernel
theorem dc_M_announce_137 : decode cd_M_announce 137 = .ok (.iload_n 1, 1) := by decide +kernel
theorem dc_M_announce_138 : decode cd_M_announce 138 = .ok (.iconst 1, 1) := by decide +kernel
theorem dc_M_announce_139 : decode cd_M_announce 139 = .ok (.iastore, 1) := by decide +kernel
theorem dc_M_announce_140 : decode cd_M_announce 140 = .ok (.iconst 0, 1) := by decide +kernel
theorem dc_M_announce_141 : decode cd_M_announce 141 = .ok (.ireturn, 1) := by decide +kernel
theorem dc_M_look_0 : decode cd_M_look 0 = .ok (.aload_n 0, 1) := by decide +kernel
theorem dc_M_look_1 : decode cd_M_look 1 = .ok (.getfield 32, 3) := by decide +kernel
theorem dc_M_look_4 : decode cd_M_look 4 = .ok (.aload_n 0, 1) := by decide +kernel
theorem dc_M_look_5 : decode cd_M_look 5 = .ok (.getfield 41, 3) := by decide +kernel
theorem dc_M_look_8 : decode cd_M_look 8 = .ok (.iload_n 1, 1) := by decide +kernel
theorem dc_M_look_9 : decode cd_M_look 9 = .ok (.iaload, 1) := by decide +kernel
theorem dc_M_look_10 : decode cd_M_look 10 = .ok (.iaload, 1) := by decide +kernel
theorem dc_M_look_11 : decode cd_M_look 11 = .ok (.istore_n 2, 1) := by decide +kernel
theorem dc_M_look_12 : decode cd_M_look 12 = .ok (.aload_n 0, 1) := by decide +kernel
theorem dc_M_look_13 : decode cd_M_look 13 = .ok (.getfield 47, 3) := by decide +kernel
theorem dc_M_look_16 : decode cd_M_look 16 = .ok (.iload_n 1, 1) := by decide +kernel
theorem dc_M_look_17 : decode cd_M_look 17 = .ok (.aload_n 0, 1) := by decide +kernel
theorem dc_M_look_18 : decode cd_M_look 18 = .ok (.getfield 13, 3) := by decide +kernel
theorem dc_M_look_21 : decode cd_M_look 21 = .ok (.iload_n 2, 1) := by decide +kernel
theorem dc_M_look_22 : decode cd_M_look 22 = .ok (.iaload, 1) := by decide +kernel
theorem dc_M_look_23 : decode cd_M_look 23 = .ok (.aload_n 0, 1) := by decide +kernel
theorem dc_M_look_24 : decode cd_M_look 24 = .ok (.getfield 13, 3) := by decide +kernel
theorem dc_M_look_27 : decode cd_M_look 27 = .ok (.aload_n 0, 1) := by decide +kernel
theorem dc_M_look_28 : decode cd_M_look 28 = .ok (.getfield 47, 3) := by decide +kernel
theorem dc_M_look_31 : decode cd_M_look 31 = .ok (.iload_n 1, 1) := by decide +kernel
theorem dc_M_look_32 : decode cd_M_look 32 = .ok (.iaload, 1) := by decide +kernel
theorem dc_M_look_33 : decode cd_M_look 33 = .ok (.iaload, 1) := by decide +kernel
theorem dc_M_look_34 : decode cd_M_look 34 = .ok (.if_icmp .le 7, 3) := by decide +kernel
theorem dc_M_look_37 : decode cd_M_look 37 = .ok (.iload_n 2, 1) := by decide +kernel
theorem dc_M_look_38 : decode cd_M_look 38 = .ok (.goto 9, 3) := by decide +kernel
theorem dc_M_look_41 : decode cd_M_look 41 = .ok (.aload_n 0, 1) := by decide +kernel
theorem dc_M_look_42 : decode cd_M_look 42 = .ok (.getfield 47, 3) := by decide +kernel
theorem dc_M_look_45 : decode cd_M_look 45 = .ok (.iload_n 1, 1) := by decide +kernel
theorem dc_M_look_46 : decode cd_M_look 46 = .ok (.iaload, 1) := by decide +kernel
theorem dc_M_look_47 : decode cd_M_look 47 = .ok (.iastore, 1) := by decide +kernel
theorem dc_M_look_48 : decode cd_M_look 48 = .ok (.aload_n 0, 1) := by decide +kernel
theorem dc_M_look_49 : decode cd_M_look 49 = .ok (.getfield 41, 3) := by decide +kernel
theorem dc_M_look_52 : decode cd_M_look 52 = .ok (.iload_n 1, 1) := by decide +kernel
theorem dc_M_look_53 : decode cd_M_look 53 = .ok (.dup2, 1) := by decide +kernel
theorem dc_M_look_54 : decode cd_M_look 54 = .ok (.iaload, 1) := by decide +kernel
theorem dc_M_look_55 : decode cd_M_look 55 = .ok (.iconst 1, 1) := by decide +kernel
theorem dc_M_look_56 : decode cd_M_look 56 = .ok (.iadd, 1) := by decide +kernel
theorem dc_M_look_57 : decode cd_M_look 57 = .ok (.iastore, 1) := by decide +kernel
theorem dc_M_look_58 : decode cd_M_look 58 = .ok (.aload_n 0, 1) := by decide +kernel
theorem dc_M_look_59 : decode cd_M_look 59 = .ok (.getfield 38, 3) := by decide +kernel
theorem dc_M_look_62 : decode cd_M_look 62 = .ok (.iload_n 1, 1) := by decide +kernel
theorem dc_M_look_63 : decode cd_M_look 63 = .ok (.aload_n 0, 1) := by decide +kernel
theorem dc_M_look_64 : decode cd_M_look 64 = .ok (.getfield 41, 3) := by decide +kernel
theorem dc_M_look_67 : decode cd_M_look 67 = .ok (.iload_n 1, 1) := by decide +kernel
theorem dc_M_look_68 : decode cd_M_look 68 = .ok (.iaload, 1) := by decide +kernel
theorem dc_M_look_69 : decode cd_M_look 69 = .ok (.aload_n 0, 1) := by decide +kernel
theorem dc_M_look_70 : decode cd_M_look 70 = .ok (.getfield 90, 3) := by decide +kernel
theorem dc_M_look_73 : decode cd_M_look 73 = .ok (.if_icmp .ne 7, 3) := by decide +kernel
theorem dc_M_look_76 : decode cd_M_look 76 = .ok (.iconst 2, 1) := by decide +kernel
theorem dc_M_look_77 : decode cd_M_look 77 = .ok (.goto 4, 3) := by decide +kernel
theorem dc_M_look_80 : decode cd_M_look 80 = .ok (.iconst 1, 1) := by decide +kernel
theorem dc_M_look_81 : decode cd_M_look 81 = .ok (.iastore, 1) := by decide +kernel
theorem dc_M_look_82 : decode cd_M_look 82 = .ok (.return_, 1) := by decide +kernel
theorem dc_M_choose_0 : decode cd_M_choose 0 = .ok (.aload_n 0, 1) := by decide +kernel
theorem dc_M_choose_1 : decode cd_M_choose 1 = .ok (.getfield 13, 3) := by decide +kernel
theorem dc_M_choose_4 : decode cd_M_choose 4 = .ok (.aload_n 0, 1) := by decide +kernel
theorem dc_M_choose_5 : decode cd_M_choose 5 = .ok (.getfield 47, 3) := by decide +kernel
theorem dc_M_choose_8 : decode cd_M_choose 8 = .ok (.iload_n 1, 1) := by decide +kernel
theorem dc_M_choose_9 : decode cd_M_choose 9 = .ok (.iaload, 1) := by decide +kernel
theorem dc_M_choose_10 : decode cd_M_choose 10 = .ok (.iaload, 1) := by decide +kernel
theorem dc_M_choose_11 : decode cd_M_choose 11 = .ok (.iconst 1, 1) := by decide +kernel
theorem dc_M_choose_12 : decode cd_M_choose 12 = .ok (.iadd, 1) := by decide +kernel
theorem dc_M_choose_13 : decode cd_M_choose 13 = .ok (.aload_n 0, 1) := by decide +kernel
theorem dc_M_choose_14 : decode cd_M_choose 14 = .ok (.getfield 90, 3) := by decide +kernel
theorem dc_M_choose_17 : decode cd_M_choose 17 = .ok (.irem, 1) := by decide +kernel
theorem dc_M_choose_18 : decode cd_M_choose 18 = .ok (.istore_n 2, 1) := by decide +kernel
theorem dc_M_choose_19 : decode cd_M_choose 19 = .ok (.aload_n 0, 1) := by decide +kernel
theorem dc_M_choose_20 : decode cd_M_choose 20 = .ok (.getfield 50, 3) := by decide +kernel
theorem dc_M_choose_23 : decode cd_M_choose 23 = .ok (.iload_n 1, 1) := by decide +kernel
theorem dc_M_choose_24 : decode cd_M_choose 24 = .ok (.aload_n 0, 1) := by decide +kernel
theorem dc_M_choose_25 : decode cd_M_choose 25 = .ok (.getfield 35, 3) := by decide +kernel
theorem dc_M_choose_28 : decode cd_M_choose 28 = .ok (.iload_n 2, 1) := by decide +kernel
theorem dc_M_choose_29 : decode cd_M_choose 29 = .ok (.iaload, 1) := by decide +kernel
theorem dc_M_choose_30 : decode cd_M_choose 30 = .ok (.ifCond .lt 26, 3) := by decide +kernel
theorem dc_M_choose_33 : decode cd_M_choose 33 = .ok (.aload_n 0, 1) := by decide +kernel
theorem dc_M_choose_34 : decode cd_M_choose 34 = .ok (.getfield 13, 3) := by decide +kernel
theorem dc_M_choose_37 : decode cd_M_choose 37 = .ok (.aload_n 0, 1) := by decide +kernel
theorem dc_M_choose_38 : decode cd_M_choose 38 = .ok (.getfield 35, 3) := by decide +kernel
theorem dc_M_choose_41 : decode cd_M_choose 41 = .ok (.iload_n 2, 1) := by decide +kernel
theorem dc_M_choose_42 : decode cd_M_choose 42 = .ok (.iaload, 1) := by decide +kernel
theorem dc_M_choose_43 : decode cd_M_choose 43 = .ok (.iaload, 1) := by decide +kernel
theorem dc_M_choose_44 : decode cd_M_choose 44 = .ok (.ifCond .ne 12, 3) := by decide +kernel
theorem dc_M_choose_47 : decode cd_M_choose 47 = .ok (.aload_n 0, 1) := by decide +kernel
theorem dc_M_choose_48 : decode cd_M_choose 48 = .ok (.getfield 35, 3) := by decide +kernel
theorem dc_M_choose_51 : decode cd_M_choose 51 = .ok (.iload_n 2, 1) := by decide +kernel
theorem dc_M_choose_52 : decode cd_M_choose 52 = .ok (.iaload, 1) := by decide +kernel
theorem dc_M_choose_53 : decode cd_M_choose 53 = .ok (.goto 9, 3) := by decide +kernel
theorem dc_M_choose_56 : decode cd_M_choose 56 = .ok (.aload_n 0, 1) := by decide +kernel
theorem dc_M_choose_57 : decode cd_M_choose 57 = .ok (.getfield 44, 3) := by decide +kernel
theorem dc_M_choose_60 : decode cd_M_choose 60 = .ok (.iload_n 1, 1) := by decide +kernel
theorem dc_M_choose_61 : decode cd_M_choose 61 = .ok (.iaload, 1) := by decide +kernel
theorem dc_M_choose_62 : decode cd_M_choose 62 = .ok (.iastore, 1) := by decide +kernel
theorem dc_M_choose_63 : decode cd_M_choose 63 = .ok (.aload_n 0, 1) := by decide +kernel
theorem dc_M_choose_64 : decode cd_M_choose 64 = .ok (.getfield 38, 3) := by decide +kernel
theorem dc_M_choose_67 : decode cd_M_choose 67 = .ok (.iload_n 1, 1) := by decide +kernel
theorem dc_M_choose_68 : decode cd_M_choose 68 = .ok (.iconst 4, 1) := by decide +kernel
theorem dc_M_choose_69 : decode cd_M_choose 69 = .ok (.iastore, 1) := by decide +kernel
theorem dc_M_choose_70 : decode cd_M_choose 70 = .ok (.return_, 1) := by decide +kernel
theorem dc_M_propose_0 : decode cd_M_propose 0 = .ok (.aload_n 0, 1) := by decide +kernel
theorem dc_M_propose_1 : decode cd_M_propose 1 = .ok (.getfield 47, 3) := by decide +kernel
theorem dc_M_propose_4 : decode cd_M_propose 4 = .ok (.iload_n 1, 1) := by decide +kernel
theorem dc_M_propose_5 : decode cd_M_propose 5 = .ok (.iaload, 1) := by decide +kernel
theorem dc_M_propose_6 : decode cd_M_propose 6 = .ok (.istore_n 2, 1) := by decide +kernel
theorem dc_M_propose_7 : decode cd_M_propose 7 = .ok (.aload_n 0, 1) := by decide +kernel
theorem dc_M_propose_8 : decode cd_M_propose 8 = .ok (.getfield 17, 3) := by decide +kernel
theorem dc_M_propose_11 : decode cd_M_propose 11 = .ok (.iload_n 2, 1) := by decide +kernel
theorem dc_M_propose_12 : decode cd_M_propose 12 = .ok (.aload_n 0, 1) := by decide +kernel
theorem dc_M_propose_13 : decode cd_M_propose 13 = .ok (.getfield 17, 3) := by decide +kernel
theorem dc_M_propose_16 : decode cd_M_propose 16 = .ok (.iload_n 2, 1) := by decide +kernel
theorem dc_M_propose_17 : decode cd_M_propose 17 = .ok (.iaload, 1) := by decide +kernel
theorem dc_M_propose_18 : decode cd_M_propose 18 = .ok (.ifCond .ge 12, 3) := by decide +kernel
theorem dc_M_propose_21 : decode cd_M_propose 21 = .ok (.aload_n 0, 1) := by decide +kernel
theorem dc_M_propose_22 : decode cd_M_propose 22 = .ok (.getfield 50, 3) := by decide +kernel
theorem dc_M_propose_25 : decode cd_M_propose 25 = .ok (.iload_n 1, 1) := by decide +kernel
theorem dc_M_propose_26 : decode cd_M_propose 26 = .ok (.iaload, 1) := by decide +kernel
theorem dc_M_propose_27 : decode cd_M_propose 27 = .ok (.goto 9, 3) := by decide +kernel
theorem dc_M_propose_30 : decode cd_M_propose 30 = .ok (.aload_n 0, 1) := by decide +kernel
theorem dc_M_propose_31 : decode cd_M_propose 31 = .ok (.getfield 17, 3) := by decide +kernel
theorem dc_M_propose_34 : decode cd_M_propose 34 = .ok (.iload_n 2, 1) := by decide +kernel
theorem dc_M_propose_35 : decode cd_M_propose 35 = .ok (.iaload, 1) := by decide +kernel
theorem dc_M_propose_36 : decode cd_M_propose 36 = .ok (.iastore, 1) := by decide +kernel
theorem dc_M_propose_37 : decode cd_M_propose 37 = .ok (.aload_n 0, 1) := by decide +kernel
theorem dc_M_propose_38 : decode cd_M_propose 38 = .ok (.getfield 50, 3) := by decide +kernel
theorem dc_M_propose_41 : decode cd_M_propose 41 = .ok (.iload_n 1, 1) := by decide +kernel
theorem dc_M_propose_42 : decode cd_M_propose 42 = .ok (.aload_n 0, 1) := by decide +kernel
theorem dc_M_propose_43 : decode cd_M_propose 43 = .ok (.getfield 17, 3) := by decide +kernel
theorem dc_M_propose_46 : decode cd_M_propose 46 = .ok (.iload_n 2, 1) := by decide +kernel
theorem dc_M_propose_47 : decode cd_M_propose 47 = .ok (.iaload, 1) := by decide +kernel
theorem dc_M_propose_48 : decode cd_M_propose 48 = .ok (.iastore, 1) := by decide +kernel
theorem dc_M_propose_49 : decode cd_M_propose 49 = .ok (.aload_n 0, 1) := by decide +kernel
theorem dc_M_propose_50 : decode cd_M_propose 50 = .ok (.getfield 38, 3) := by decide +kernel
theorem dc_M_propose_53 : decode cd_M_propose 53 = .ok (.iload_n 1, 1) := by decide +kernel
theorem dc_M_propose_54 : decode cd_M_propose 54 = .ok (.iconst 5, 1) := by decide +kernel
theorem dc_M_propose_55 : decode cd_M_propose 55 = .ok (.iastore, 1) := by decide +kernel
theorem dc_M_propose_56 : decode cd_M_propose 56 = .ok (.return_, 1) := by decide +kernel
theorem dc_M_give_0 : decode cd_M_give 0 = .ok (.aload_n 0, 1) := by decide +kernel
theorem dc_M_give_1 : decode cd_M_give 1 = .ok (.getfield 50, 3) := by decide +kernel
theorem dc_M_give_4 : decode cd_M_give 4 = .ok (.iload_n 1, 1) := by decide +kernel
theorem dc_M_give_5 : decode cd_M_give 5 = .ok (.iaload, 1) := by decide +kernel
theorem dc_M_give_6 : decode cd_M_give 6 = .ok (.istore_n 2, 1) := by decide +kernel
theorem dc_M_give_7 : decode cd_M_give 7 = .ok (.aload_n 0, 1) := by decide +kernel
theorem dc_M_give_8 : decode cd_M_give 8 = .ok (.getfield 13, 3) := by decide +kernel
theorem dc_M_give_11 : decode cd_M_give 11 = .ok (.aload_n 0, 1) := by decide +kernel
theorem dc_M_give_12 : decode cd_M_give 12 = .ok (.getfield 47, 3) := by decide +kernel
theorem dc_M_give_15 : decode cd_M_give 15 = .ok (.iload_n 1, 1) := by decide +kernel
theorem dc_M_give_16 : decode cd_M_give 16 = .ok (.iaload, 1) := by decide +kernel
theorem dc_M_give_17 : decode cd_M_give 17 = .ok (.iaload, 1) := by decide +kernel
theorem dc_M_give_18 : decode cd_M_give 18 = .ok (.iconst 1, 1) := by decide +kernel
theorem dc_M_give_19 : decode cd_M_give 19 = .ok (.iadd, 1) := by decide +kernel
theorem dc_M_give_20 : decode cd_M_give 20 = .ok (.istore_n 3, 1) := by decide +kernel
theorem dc_M_give_21 : decode cd_M_give 21 = .ok (.aload_n 0, 1) := by decide +kernel
theorem dc_M_give_22 : decode cd_M_give 22 = .ok (.getfield 13, 3) := by decide +kernel
theorem dc_M_give_25 : decode cd_M_give 25 = .ok (.iload_n 2, 1) := by decide +kernel
theorem dc_M_give_26 : decode cd_M_give 26 = .ok (.iload_n 3, 1) := by decide +kernel
theorem dc_M_give_27 : decode cd_M_give 27 = .ok (.iastore, 1) := by decide +kernel
theorem dc_M_give_28 : decode cd_M_give 28 = .ok (.aload_n 0, 1) := by decide +kernel
theorem dc_M_give_29 : decode cd_M_give 29 = .ok (.getfield 71, 3) := by decide +kernel
theorem dc_M_give_32 : decode cd_M_give 32 = .ok (.iload_n 3, 1) := by decide +kernel
theorem dc_M_give_33 : decode cd_M_give 33 = .ok (.aload_n 0, 1) := by decide +kernel
theorem dc_M_give_34 : decode cd_M_give 34 = .ok (.getfield 23, 3) := by decide +kernel
theorem dc_M_give_37 : decode cd_M_give 37 = .ok (.iload_n 2, 1) := by decide +kernel
theorem dc_M_give_38 : decode cd_M_give 38 = .ok (.iaload, 1) := by decide +kernel
theorem dc_M_give_39 : decode cd_M_give 39 = .ok (.iastore, 1) := by decide +kernel
theorem dc_M_give_40 : decode cd_M_give 40 = .ok (.aload_n 0, 1) := by decide +kernel
theorem dc_M_give_41 : decode cd_M_give 41 = .ok (.getfield 74, 3) := by decide +kernel
theorem dc_M_give_44 : decode cd_M_give 44 = .ok (.iload_n 3, 1) := by decide +kernel
theorem dc_M_give_45 : decode cd_M_give 45 = .ok (.aload_n 0, 1) := by decide +kernel
theorem dc_M_give_46 : decode cd_M_give 46 = .ok (.getfield 26, 3) := by decide +kernel
theorem dc_M_give_49 : decode cd_M_give 49 = .ok (.iload_n 2, 1) := by decide +kernel
theorem dc_M_give_50 : decode cd_M_give 50 = .ok (.iaload, 1) := by decide +kernel
theorem dc_M_give_51 : decode cd_M_give 51 = .ok (.iastore, 1) := by decide +kernel
theorem dc_M_give_52 : decode cd_M_give 52 = .ok (.aload_n 0, 1) := by decide +kernel
theorem dc_M_give_53 : decode cd_M_give 53 = .ok (.getfield 77, 3) := by decide +kernel
theorem dc_M_give_56 : decode cd_M_give 56 = .ok (.iload_n 3, 1) := by decide +kernel
theorem dc_M_give_57 : decode cd_M_give 57 = .ok (.aload_n 0, 1) := by decide +kernel
theorem dc_M_give_58 : decode cd_M_give 58 = .ok (.getfield 29, 3) := by decide +kernel
theorem dc_M_give_61 : decode cd_M_give 61 = .ok (.iload_n 2, 1) := by decide +kernel
theorem dc_M_give_62 : decode cd_M_give 62 = .ok (.iaload, 1) := by decide +kernel
theorem dc_M_give_63 : decode cd_M_give 63 = .ok (.iastore, 1) := by decide +kernel
theorem dc_M_give_64 : decode cd_M_give 64 = .ok (.aload_n 0, 1) := by decide +kernel
theorem dc_M_give_65 : decode cd_M_give 65 = .ok (.iload_n 3, 1) := by decide +kernel
theorem dc_M_give_66 : decode cd_M_give 66 = .ok (.aload_n 0, 1) := by decide +kernel
theorem dc_M_give_67 : decode cd_M_give 67 = .ok (.getfield 93, 3) := by decide +kernel
theorem dc_M_give_70 : decode cd_M_give 70 = .ok (.if_icmp .le 7, 3) := by decide +kernel
theorem dc_M_give_73 : decode cd_M_give 73 = .ok (.iload_n 3, 1) := by decide +kernel
theorem dc_M_give_74 : decode cd_M_give 74 = .ok (.goto 7, 3) := by decide +kernel
theorem dc_M_give_77 : decode cd_M_give 77 = .ok (.aload_n 0, 1) := by decide +kernel
theorem dc_M_give_78 : decode cd_M_give 78 = .ok (.getfield 93, 3) := by decide +kernel
theorem dc_M_give_81 : decode cd_M_give 81 = .ok (.putfield 93, 3) := by decide +kernel
theorem dc_M_give_84 : decode cd_M_give 84 = .ok (.aload_n 0, 1) := by decide +kernel
theorem dc_M_give_85 : decode cd_M_give 85 = .ok (.getfield 38, 3) := by decide +kernel
theorem dc_M_give_88 : decode cd_M_give 88 = .ok (.iload_n 1, 1) := by decide +kernel
theorem dc_M_give_89 : decode cd_M_give 89 = .ok (.bipush 6, 2) := by decide +kernel
theorem dc_M_give_91 : decode cd_M_give 91 = .ok (.iastore, 1) := by decide +kernel
theorem dc_M_give_92 : decode cd_M_give 92 = .ok (.return_, 1) := by decide +kernel
theorem dc_M_finish_0 : decode cd_M_finish 0 = .ok (.aload_n 0, 1) := by decide +kernel
theorem dc_M_finish_1 : decode cd_M_finish 1 = .ok (.getfield 32, 3) := by decide +kernel
theorem dc_M_finish_4 : decode cd_M_finish 4 = .ok (.iload_n 1, 1) := by decide +kernel
theorem dc_M_finish_5 : decode cd_M_finish 5 = .ok (.aload_n 0, 1) := by decide +kernel
theorem dc_M_finish_6 : decode cd_M_finish 6 = .ok (.getfield 44, 3) := by decide +kernel
theorem dc_M_finish_9 : decode cd_M_finish 9 = .ok (.iload_n 1, 1) := by decide +kernel
theorem dc_M_finish_10 : decode cd_M_finish 10 = .ok (.iaload, 1) := by decide +kernel
theorem dc_M_finish_11 : decode cd_M_finish 11 = .ok (.iastore, 1) := by decide +kernel
theorem dc_M_finish_12 : decode cd_M_finish 12 = .ok (.aload_n 0, 1) := by decide +kernel
theorem dc_M_finish_13 : decode cd_M_finish 13 = .ok (.getfield 35, 3) := by decide +kernel
theorem dc_M_finish_16 : decode cd_M_finish 16 = .ok (.iload_n 1, 1) := by decide +kernel
theorem dc_M_finish_17 : decode cd_M_finish 17 = .ok (.iconst (-1), 1) := by decide +kernel
theorem dc_M_finish_18 : decode cd_M_finish 18 = .ok (.iastore, 1) := by decide +kernel
theorem dc_M_finish_19 : decode cd_M_finish 19 = .ok (.aload_n 0, 1) := by decide +kernel
theorem dc_M_finish_20 : decode cd_M_finish 20 = .ok (.getfield 68, 3) := by decide +kernel
theorem dc_M_finish_23 : decode cd_M_finish 23 = .ok (.iload_n 1, 1) := by decide +kernel
theorem dc_M_finish_24 : decode cd_M_finish 24 = .ok (.aload_n 0, 1) := by decide +kernel
theorem dc_M_finish_25 : decode cd_M_finish 25 = .ok (.getfield 13, 3) := by decide +kernel
theorem dc_M_finish_28 : decode cd_M_finish 28 = .ok (.aload_n 0, 1) := by decide +kernel
theorem dc_M_finish_29 : decode cd_M_finish 29 = .ok (.getfield 44, 3) := by decide +kernel
theorem dc_M_finish_32 : decode cd_M_finish 32 = .ok (.iload_n 1, 1) := by decide +kernel
theorem dc_M_finish_33 : decode cd_M_finish 33 = .ok (.iaload, 1) := by decide +kernel
theorem dc_M_finish_34 : decode cd_M_finish 34 = .ok (.iaload, 1) := by decide +kernel
theorem dc_M_finish_35 : decode cd_M_finish 35 = .ok (.iastore, 1) := by decide +kernel
theorem dc_M_finish_36 : decode cd_M_finish 36 = .ok (.aload_n 0, 1) := by decide +kernel
theorem dc_M_finish_37 : decode cd_M_finish 37 = .ok (.getfield 65, 3) := by decide +kernel
theorem dc_M_finish_40 : decode cd_M_finish 40 = .ok (.iload_n 1, 1) := by decide +kernel
theorem dc_M_finish_41 : decode cd_M_finish 41 = .ok (.aload_n 0, 1) := by decide +kernel
theorem dc_M_finish_42 : decode cd_M_finish 42 = .ok (.aload_n 0, 1) := by decide +kernel
theorem dc_M_finish_43 : decode cd_M_finish 43 = .ok (.getfield 68, 3) := by decide +kernel
theorem dc_M_finish_46 : decode cd_M_finish 46 = .ok (.iload_n 1, 1) := by decide +kernel
theorem dc_M_finish_47 : decode cd_M_finish 47 = .ok (.iaload, 1) := by decide +kernel
theorem dc_M_finish_48 : decode cd_M_finish 48 = .ok (.invokevirtual 126, 3) := by decide +kernel
theorem dc_M_finish_51 : decode cd_M_finish 51 = .ok (.iastore, 1) := by decide +kernel
theorem dc_M_finish_52 : decode cd_M_finish 52 = .ok (.aload_n 0, 1) := by decide +kernel
theorem dc_M_finish_53 : decode cd_M_finish 53 = .ok (.getfield 62, 3) := by decide +kernel
theorem dc_M_finish_56 : decode cd_M_finish 56 = .ok (.iload_n 1, 1) := by decide +kernel
theorem dc_M_finish_57 : decode cd_M_finish 57 = .ok (.dup2, 1) := by decide +kernel
theorem dc_M_finish_58 : decode cd_M_finish 58 = .ok (.iaload, 1) := by decide +kernel
theorem dc_M_finish_59 : decode cd_M_finish 59 = .ok (.iconst 1, 1) := by decide +kernel
theorem dc_M_finish_60 : decode cd_M_finish 60 = .ok (.iadd, 1) := by decide +kernel
theorem dc_M_finish_61 : decode cd_M_finish 61 = .ok (.iastore, 1) := by decide +kernel
theorem dc_M_finish_62 : decode cd_M_finish 62 = .ok (.aload_n 0, 1) := by decide +kernel
theorem dc_M_finish_63 : decode cd_M_finish 63 = .ok (.getfield 38, 3) := by decide +kernel
theorem dc_M_finish_66 : decode cd_M_finish 66 = .ok (.iload_n 1, 1) := by decide +kernel
theorem dc_M_finish_67 : decode cd_M_finish 67 = .ok (.iconst (-1), 1) := by decide +kernel
theorem dc_M_finish_68 : decode cd_M_finish 68 = .ok (.iastore, 1) := by decide +kernel
theorem dc_M_finish_69 : decode cd_M_finish 69 = .ok (.iconst 1, 1) := by decide +kernel
theorem dc_M_finish_70 : decode cd_M_finish 70 = .ok (.ireturn, 1) := by decide +kernel
theorem dc_M_one_0 : decode cd_M_one 0 = .ok (.aload_n 0, 1) := by decide +kernel
theorem dc_M_one_1 : decode cd_M_one 1 = .ok (.getfield 38, 3) := by decide +kernel
theorem dc_M_one_4 : decode cd_M_one 4 = .ok (.iload_n 1, 1) := by decide +kernel
theorem dc_M_one_5 : decode cd_M_one 5 = .ok (.iaload, 1) := by decide +kernel
theorem dc_M_one_6 : decode cd_M_one 6 = .ok (.tableswitch 149 (-1) 6 #[46, 48, 54, 62, 91, 99, 107, 115], 46) := by decide +kernel
theorem dc_M_one_52 : decode cd_M_one 52 = .ok (.iconst 2, 1) := by decide +kernel
theorem dc_M_one_53 : decode cd_M_one 53 = .ok (.ireturn, 1) := by decide +kernel
theorem dc_M_one_54 : decode cd_M_one 54 = .ok (.aload_n 0, 1) := by decide +kernel
theorem dc_M_one_55 : decode cd_M_one 55 = .ok (.iload_n 1, 1) := by decide +kernel
theorem dc_M_one_56 : decode cd_M_one 56 = .ok (.invokevirtual 130, 3) := by decide +kernel
theorem dc_M_one_59 : decode cd_M_one 59 = .ok (.ireturn, 1) := by decide +kernel
theorem dc_M_one_60 : decode cd_M_one 60 = .ok (.aload_n 0, 1) := by decide +kernel
theorem dc_M_one_61 : decode cd_M_one 61 = .ok (.iload_n 1, 1) := by decide +kernel
theorem dc_M_one_62 : decode cd_M_one 62 = .ok (.invokevirtual 133, 3) := by decide +kernel
theorem dc_M_one_65 : decode cd_M_one 65 = .ok (.goto 96, 3) := by decide +kernel
theorem dc_M_one_68 : decode cd_M_one 68 = .ok (.aload_n 0, 1) := by decide +kernel
theorem dc_M_one_69 : decode cd_M_one 69 = .ok (.getfield 38, 3) := by decide +kernel
theorem dc_M_one_72 : decode cd_M_one 72 = .ok (.iload_n 1, 1) := by decide +kernel
theorem dc_M_one_73 : decode cd_M_one 73 = .ok (.aload_n 0, 1) := by decide +kernel
theorem dc_M_one_74 : decode cd_M_one 74 = .ok (.getfield 13, 3) := by decide +kernel
theorem dc_M_one_77 : decode cd_M_one 77 = .ok (.aload_n 0, 1) := by decide +kernel
theorem dc_M_one_78 : decode cd_M_one 78 = .ok (.getfield 44, 3) := by decide +kernel
theorem dc_M_one_81 : decode cd_M_one 81 = .ok (.iload_n 1, 1) := by decide +kernel
theorem dc_M_one_82 : decode cd_M_one 82 = .ok (.iaload, 1) := by decide +kernel
theorem dc_M_one_83 : decode cd_M_one 83 = .ok (.iaload, 1) := by decide +kernel
theorem dc_M_one_84 : decode cd_M_one 84 = .ok (.ifCond .le 8, 3) := by decide +kernel
theorem dc_M_one_87 : decode cd_M_one 87 = .ok (.bipush 7, 2) := by decide +kernel
theorem dc_M_one_89 : decode cd_M_one 89 = .ok (.goto 4, 3) := by decide +kernel
theorem dc_M_one_92 : decode cd_M_one 92 = .ok (.iconst 3, 1) := by decide +kernel
theorem dc_M_one_93 : decode cd_M_one 93 = .ok (.iastore, 1) := by decide +kernel
theorem dc_M_one_94 : decode cd_M_one 94 = .ok (.goto 67, 3) := by decide +kernel
theorem dc_M_one_97 : decode cd_M_one 97 = .ok (.aload_n 0, 1) := by decide +kernel
theorem dc_M_one_98 : decode cd_M_one 98 = .ok (.iload_n 1, 1) := by decide +kernel
theorem dc_M_one_99 : decode cd_M_one 99 = .ok (.invokevirtual 137, 3) := by decide +kernel
theorem dc_M_one_102 : decode cd_M_one 102 = .ok (.goto 59, 3) := by decide +kernel
theorem dc_M_one_105 : decode cd_M_one 105 = .ok (.aload_n 0, 1) := by decide +kernel
theorem dc_M_one_106 : decode cd_M_one 106 = .ok (.iload_n 1, 1) := by decide +kernel
theorem dc_M_one_107 : decode cd_M_one 107 = .ok (.invokevirtual 140, 3) := by decide +kernel
theorem dc_M_one_110 : decode cd_M_one 110 = .ok (.goto 51, 3) := by decide +kernel
theorem dc_M_one_113 : decode cd_M_one 113 = .ok (.aload_n 0, 1) := by decide +kernel
theorem dc_M_one_114 : decode cd_M_one 114 = .ok (.iload_n 1, 1) := by decide +kernel
theorem dc_M_one_115 : decode cd_M_one 115 = .ok (.invokevirtual 143, 3) := by decide +kernel
theorem dc_M_one_118 : decode cd_M_one 118 = .ok (.goto 43, 3) := by decide +kernel
theorem dc_M_one_121 : decode cd_M_one 121 = .ok (.aload_n 0, 1) := by decide +kernel
theorem dc_M_one_122 : decode cd_M_one 122 = .ok (.getfield 32, 3) := by decide +kernel
theorem dc_M_one_125 : decode cd_M_one 125 = .ok (.iload_n 1, 1) := by decide +kernel
theorem dc_M_one_126 : decode cd_M_one 126 = .ok (.aload_n 0, 1) := by decide +kernel
theorem dc_M_one_127 : decode cd_M_one 127 = .ok (.getfield 50, 3) := by decide +kernel
theorem dc_M_one_130 : decode cd_M_one 130 = .ok (.iload_n 1, 1) := by decide +kernel
theorem dc_M_one_131 : decode cd_M_one 131 = .ok (.iaload, 1) := by decide +kernel
theorem dc_M_one_132 : decode cd_M_one 132 = .ok (.iastore, 1) := by decide +kernel
theorem dc_M_one_133 : decode cd_M_one 133 = .ok (.aload_n 0, 1) := by decide +kernel
theorem dc_M_one_134 : decode cd_M_one 134 = .ok (.getfield 47, 3) := by decide +kernel
theorem dc_M_one_137 : decode cd_M_one 137 = .ok (.iload_n 1, 1) := by decide +kernel
theorem dc_M_one_138 : decode cd_M_one 138 = .ok (.aload_n 0, 1) := by decide +kernel
theorem dc_M_one_139 : decode cd_M_one 139 = .ok (.getfield 50, 3) := by decide +kernel
theorem dc_M_one_142 : decode cd_M_one 142 = .ok (.iload_n 1, 1) := by decide +kernel
theorem dc_M_one_143 : decode cd_M_one 143 = .ok (.iaload, 1) := by decide +kernel
theorem dc_M_one_144 : decode cd_M_one 144 = .ok (.iastore, 1) := by decide +kernel
theorem dc_M_one_145 : decode cd_M_one 145 = .ok (.aload_n 0, 1) := by decide +kernel
theorem dc_M_one_146 : decode cd_M_one 146 = .ok (.getfield 38, 3) := by decide +kernel
theorem dc_M_one_149 : decode cd_M_one 149 = .ok (.iload_n 1, 1) := by decide +kernel
theorem dc_M_one_150 : decode cd_M_one 150 = .ok (.iconst 2, 1) := by decide +kernel
theorem dc_M_one_151 : decode cd_M_one 151 = .ok (.iastore, 1) := by decide +kernel
theorem dc_M_one_152 : decode cd_M_one 152 = .ok (.goto 9, 3) := by decide +kernel
theorem dc_M_one_155 : decode cd_M_one 155 = .ok (.aload_n 0, 1) := by decide +kernel
theorem dc_M_one_156 : decode cd_M_one 156 = .ok (.iload_n 1, 1) := by decide +kernel
theorem dc_M_one_157 : decode cd_M_one 157 = .ok (.invokevirtual 146, 3) := by decide +kernel
theorem dc_M_one_160 : decode cd_M_one 160 = .ok (.ireturn, 1) := by decide +kernel
theorem dc_M_one_161 : decode cd_M_one 161 = .ok (.iconst 0, 1) := by decide +kernel
theorem dc_M_one_162 : decode cd_M_one 162 = .ok (.ireturn, 1) := by decide +kernel
theorem dc_M_step_0 : decode cd_M_step 0 = .ok (.aload_n 0, 1) := by decide +kernel
theorem dc_M_step_1 : decode cd_M_step 1 = .ok (.aload_n 0, 1) := by decide +kernel
theorem dc_M_step_2 : decode cd_M_step 2 = .ok (.iload_n 1, 1) := by decide +kernel
theorem dc_M_step_3 : decode cd_M_step 3 = .ok (.invokevirtual 119, 3) := by decide +kernel
theorem dc_M_step_6 : decode cd_M_step 6 = .ok (.ifCond .eq 7, 3) := by decide +kernel
theorem dc_M_step_9 : decode cd_M_step 9 = .ok (.iconst 0, 1) := by decide +kernel
theorem dc_M_step_10 : decode cd_M_step 10 = .ok (.goto 4, 3) := by decide +kernel
theorem dc_M_step_13 : decode cd_M_step 13 = .ok (.iconst 1, 1) := by decide +kernel
theorem dc_M_step_14 : decode cd_M_step 14 = .ok (.invokevirtual 123, 3) := by decide +kernel
theorem dc_M_step_17 : decode cd_M_step 17 = .ok (.ifCond .eq 7, 3) := by decide +kernel
theorem dc_M_step_20 : decode cd_M_step 20 = .ok (.iconst 0, 1) := by decide +kernel
theorem dc_M_step_21 : decode cd_M_step 21 = .ok (.goto 8, 3) := by decide +kernel
theorem dc_M_step_24 : decode cd_M_step 24 = .ok (.aload_n 0, 1) := by decide +kernel
theorem dc_M_step_25 : decode cd_M_step 25 = .ok (.iload_n 1, 1) := by decide +kernel
theorem dc_M_step_26 : decode cd_M_step 26 = .ok (.invokevirtual 149, 3) := by decide +kernel
theorem dc_M_step_29 : decode cd_M_step 29 = .ok (.ireturn, 1) := by decide +kernel
theorem dc_M_run_0 : decode cd_M_run 0 = .ok (.aload_n 0, 1) := by decide +kernel
theorem dc_M_run_1 : decode cd_M_run 1 = .ok (.iload_n 2, 1) := by decide +kernel
theorem dc_M_run_2 : decode cd_M_run 2 = .ok (.iconst 1, 1) := by decide +kernel
theorem dc_M_run_3 : decode cd_M_run 3 = .ok (.if_icmp .lt 10, 3) := by decide +kernel
theorem dc_M_run_6 : decode cd_M_run 6 = .ok (.iload_n 2, 1) := by decide +kernel
theorem dc_M_run_7 : decode cd_M_run 7 = .ok (.sipush 1000, 3) := by decide +kernel
theorem dc_M_run_10 : decode cd_M_run 10 = .ok (.if_icmp .le 7, 3) := by decide +kernel
theorem dc_M_run_13 : decode cd_M_run 13 = .ok (.iconst 1, 1) := by decide +kernel
theorem dc_M_run_14 : decode cd_M_run 14 = .ok (.goto 4, 3) := by decide +kernel
theorem dc_M_run_17 : decode cd_M_run 17 = .ok (.iconst 0, 1) := by decide +kernel
theorem dc_M_run_18 : decode cd_M_run 18 = .ok (.invokevirtual 123, 3) := by decide +kernel
theorem dc_M_run_21 : decode cd_M_run 21 = .ok (.ifCond .eq 5, 3) := by decide +kernel
theorem dc_M_run_24 : decode cd_M_run 24 = .ok (.iconst 0, 1) := by decide +kernel
theorem dc_M_run_25 : decode cd_M_run 25 = .ok (.ireturn, 1) := by decide +kernel
theorem dc_M_run_26 : decode cd_M_run 26 = .ok (.iload_n 1, 1) := by decide +kernel
theorem dc_M_run_27 : decode cd_M_run 27 = .ok (.istore_n 3, 1) := by decide +kernel
theorem dc_M_run_28 : decode cd_M_run 28 = .ok (.iconst 0, 1) := by decide +kernel
theorem dc_M_run_29 : decode cd_M_run 29 = .ok (.istore 4, 2) := by decide +kernel
theorem dc_M_run_31 : decode cd_M_run 31 = .ok (.iconst 0, 1) := by decide +kernel
theorem dc_M_run_32 : decode cd_M_run 32 = .ok (.istore 5, 2) := by decide +kernel
theorem dc_M_run_34 : decode cd_M_run 34 = .ok (.iload 5, 2) := by decide +kernel
theorem dc_M_run_36 : decode cd_M_run 36 = .ok (.iload_n 2, 1) := by decide +kernel
theorem dc_M_run_37 : decode cd_M_run 37 = .ok (.if_icmp .ge 46, 3) := by decide +kernel
theorem dc_M_run_40 : decode cd_M_run 40 = .ok (.iload_n 3, 1) := by decide +kernel
theorem dc_M_run_41 : decode cd_M_run 41 = .ok (.ldc 152, 2) := by decide +kernel
theorem dc_M_run_43 : decode cd_M_run 43 = .ok (.imul, 1) := by decide +kernel
theorem dc_M_run_44 : decode cd_M_run 44 = .ok (.sipush 12345, 3) := by decide +kernel
theorem dc_M_run_47 : decode cd_M_run 47 = .ok (.iadd, 1) := by decide +kernel
theorem dc_M_run_48 : decode cd_M_run 48 = .ok (.istore_n 3, 1) := by decide +kernel
theorem dc_M_run_49 : decode cd_M_run 49 = .ok (.aload_n 0, 1) := by decide +kernel
theorem dc_M_run_50 : decode cd_M_run 50 = .ok (.iload_n 3, 1) := by decide +kernel
theorem dc_M_run_51 : decode cd_M_run 51 = .ok (.bipush 16, 2) := by decide +kernel
theorem dc_M_run_53 : decode cd_M_run 53 = .ok (.iushr, 1) := by decide +kernel
theorem dc_M_run_54 : decode cd_M_run 54 = .ok (.aload_n 0, 1) := by decide +kernel
theorem dc_M_run_55 : decode cd_M_run 55 = .ok (.getfield 90, 3) := by decide +kernel
theorem dc_M_run_58 : decode cd_M_run 58 = .ok (.irem, 1) := by decide +kernel
theorem dc_M_run_59 : decode cd_M_run 59 = .ok (.invokevirtual 149, 3) := by decide +kernel
theorem dc_M_run_62 : decode cd_M_run 62 = .ok (.iconst 1, 1) := by decide +kernel
theorem dc_M_run_63 : decode cd_M_run 63 = .ok (.if_icmp .ne 10, 3) := by decide +kernel
theorem dc_M_run_66 : decode cd_M_run 66 = .ok (.iload 4, 2) := by decide +kernel
theorem dc_M_run_68 : decode cd_M_run 68 = .ok (.iconst 1, 1) := by decide +kernel
theorem dc_M_run_69 : decode cd_M_run 69 = .ok (.iadd, 1) := by decide +kernel
theorem dc_M_run_70 : decode cd_M_run 70 = .ok (.goto 5, 3) := by decide +kernel
theorem dc_M_run_73 : decode cd_M_run 73 = .ok (.iload 4, 2) := by decide +kernel
theorem dc_M_run_75 : decode cd_M_run 75 = .ok (.istore 4, 2) := by decide +kernel
theorem dc_M_run_77 : decode cd_M_run 77 = .ok (.iinc 5 1, 3) := by decide +kernel
theorem dc_M_run_80 : decode cd_M_run 80 = .ok (.goto (-46), 3) := by decide +kernel
theorem dc_M_run_83 : decode cd_M_run 83 = .ok (.iload 4, 2) := by decide +kernel
theorem dc_M_run_85 : decode cd_M_run 85 = .ok (.ireturn, 1) := by decide +kernel
theorem dc_M_done_0 : decode cd_M_done 0 = .ok (.aload_n 0, 1) := by decide +kernel
theorem dc_M_done_1 : decode cd_M_done 1 = .ok (.aload_n 0, 1) := by decide +kernel
theorem dc_M_done_2 : decode cd_M_done 2 = .ok (.iload_n 1, 1) := by decide +kernel
theorem dc_M_done_3 : decode cd_M_done 3 = .ok (.invokevirtual 119, 3) := by decide +kernel
theorem dc_M_done_6 : decode cd_M_done 6 = .ok (.ifCond .eq 7, 3) := by decide +kernel
theorem dc_M_done_9 : decode cd_M_done 9 = .ok (.iconst 0, 1) := by decide +kernel
theorem dc_M_done_10 : decode cd_M_done 10 = .ok (.goto 4, 3) := by decide +kernel
theorem dc_M_done_13 : decode cd_M_done 13 = .ok (.iconst 1, 1) := by decide +kernel
theorem dc_M_done_14 : decode cd_M_done 14 = .ok (.invokevirtual 123, 3) := by decide +kernel
theorem dc_M_done_17 : decode cd_M_done 17 = .ok (.ifCond .eq 7, 3) := by decide +kernel
theorem dc_M_done_20 : decode cd_M_done 20 = .ok (.iconst 0, 1) := by decide +kernel
theorem dc_M_done_21 : decode cd_M_done 21 = .ok (.goto 9, 3) := by decide +kernel
theorem dc_M_done_24 : decode cd_M_done 24 = .ok (.aload_n 0, 1) := by decide +kernel
theorem dc_M_done_25 : decode cd_M_done 25 = .ok (.getfield 62, 3) := by decide +kernel
theorem dc_M_done_28 : decode cd_M_done 28 = .ok (.iload_n 1, 1) := by decide +kernel
theorem dc_M_done_29 : decode cd_M_done 29 = .ok (.iaload, 1) := by decide +kernel
theorem dc_M_done_30 : decode cd_M_done 30 = .ok (.ireturn, 1) := by decide +kernel
theorem dc_M_answer_0 : decode cd_M_answer 0 = .ok (.aload_n 0, 1) := by decide +kernel
theorem dc_M_answer_1 : decode cd_M_answer 1 = .ok (.aload_n 0, 1) := by decide +kernel
theorem dc_M_answer_2 : decode cd_M_answer 2 = .ok (.iload_n 1, 1) := by decide +kernel
theorem dc_M_answer_3 : decode cd_M_answer 3 = .ok (.invokevirtual 119, 3) := by decide +kernel
theorem dc_M_answer_6 : decode cd_M_answer 6 = .ok (.ifCond .ne 7, 3) := by decide +kernel
theorem dc_M_answer_9 : decode cd_M_answer 9 = .ok (.iconst 1, 1) := by decide +kernel
theorem dc_M_answer_10 : decode cd_M_answer 10 = .ok (.goto 17, 3) := by decide +kernel
theorem dc_M_answer_13 : decode cd_M_answer 13 = .ok (.aload_n 0, 1) := by decide +kernel
theorem dc_M_answer_14 : decode cd_M_answer 14 = .ok (.getfield 62, 3) := by decide +kernel
theorem dc_M_answer_17 : decode cd_M_answer 17 = .ok (.iload_n 1, 1) := by decide +kernel
theorem dc_M_answer_18 : decode cd_M_answer 18 = .ok (.iaload, 1) := by decide +kernel
theorem dc_M_answer_19 : decode cd_M_answer 19 = .ok (.ifCond .ne 7, 3) := by decide +kernel
theorem dc_M_answer_22 : decode cd_M_answer 22 = .ok (.iconst 2, 1) := by decide +kernel
theorem dc_M_answer_23 : decode cd_M_answer 23 = .ok (.goto 4, 3) := by decide +kernel
theorem dc_M_answer_26 : decode cd_M_answer 26 = .ok (.iconst 0, 1) := by decide +kernel
theorem dc_M_answer_27 : decode cd_M_answer 27 = .ok (.invokevirtual 123, 3) := by decide +kernel
theorem dc_M_answer_30 : decode cd_M_answer 30 = .ok (.ifCond .eq 7, 3) := by decide +kernel
theorem dc_M_answer_33 : decode cd_M_answer 33 = .ok (.iconst 0, 1) := by decide +kernel
theorem dc_M_answer_34 : decode cd_M_answer 34 = .ok (.goto 9, 3) := by decide +kernel
theorem dc_M_answer_37 : decode cd_M_answer 37 = .ok (.aload_n 0, 1) := by decide +kernel
theorem dc_M_answer_38 : decode cd_M_answer 38 = .ok (.getfield 65, 3) := by decide +kernel
theorem dc_M_answer_41 : decode cd_M_answer 41 = .ok (.iload_n 1, 1) := by decide +kernel
theorem dc_M_answer_42 : decode cd_M_answer 42 = .ok (.iaload, 1) := by decide +kernel
theorem dc_M_answer_43 : decode cd_M_answer 43 = .ok (.ireturn, 1) := by decide +kernel
theorem dc_M_placeOf_0 : decode cd_M_placeOf 0 = .ok (.aload_n 0, 1) := by decide +kernel
theorem dc_M_placeOf_1 : decode cd_M_placeOf 1 = .ok (.aload_n 0, 1) := by decide +kernel
theorem dc_M_placeOf_2 : decode cd_M_placeOf 2 = .ok (.iload_n 1, 1) := by decide +kernel
theorem dc_M_placeOf_3 : decode cd_M_placeOf 3 = .ok (.invokevirtual 119, 3) := by decide +kernel
theorem dc_M_placeOf_6 : decode cd_M_placeOf 6 = .ok (.ifCond .eq 7, 3) := by decide +kernel
theorem dc_M_placeOf_9 : decode cd_M_placeOf 9 = .ok (.iconst 0, 1) := by decide +kernel
theorem dc_M_placeOf_10 : decode cd_M_placeOf 10 = .ok (.goto 4, 3) := by decide +kernel
theorem dc_M_placeOf_13 : decode cd_M_placeOf 13 = .ok (.iconst 1, 1) := by decide +kernel
theorem dc_M_placeOf_14 : decode cd_M_placeOf 14 = .ok (.invokevirtual 123, 3) := by decide +kernel
theorem dc_M_placeOf_17 : decode cd_M_placeOf 17 = .ok (.ifCond .eq 7, 3) := by decide +kernel
theorem dc_M_placeOf_20 : decode cd_M_placeOf 20 = .ok (.iconst 0, 1) := by decide +kernel
theorem dc_M_placeOf_21 : decode cd_M_placeOf 21 = .ok (.goto 9, 3) := by decide +kernel
theorem dc_M_placeOf_24 : decode cd_M_placeOf 24 = .ok (.aload_n 0, 1) := by decide +kernel
theorem dc_M_placeOf_25 : decode cd_M_placeOf 25 = .ok (.getfield 68, 3) := by decide +kernel
theorem dc_M_placeOf_28 : decode cd_M_placeOf 28 = .ok (.iload_n 1, 1) := by decide +kernel
theorem dc_M_placeOf_29 : decode cd_M_placeOf 29 = .ok (.iaload, 1) := by decide +kernel
theorem dc_M_placeOf_30 : decode cd_M_placeOf 30 = .ok (.ireturn, 1) := by decide +kernel
theorem dc_M_end_0 : decode cd_M_end 0 = .ok (.aload_n 0, 1) := by decide +kernel
theorem dc_M_end_1 : decode cd_M_end 1 = .ok (.iconst 0, 1) := by decide +kernel
theorem dc_M_end_2 : decode cd_M_end 2 = .ok (.putfield 99, 3) := by decide +kernel
theorem dc_M_end_5 : decode cd_M_end 5 = .ok (.aload_n 0, 1) := by decide +kernel
theorem dc_M_end_6 : decode cd_M_end 6 = .ok (.getfield 93, 3) := by decide +kernel
theorem dc_M_end_9 : decode cd_M_end 9 = .ok (.ireturn, 1) := by decide +kernel
theorem dc_M_leastInUse_0 : decode cd_M_leastInUse 0 = .ok (.iconst 0, 1) := by decide +kernel
theorem dc_M_leastInUse_1 : decode cd_M_leastInUse 1 = .ok (.istore_n 1, 1) := by decide +kernel
theorem dc_M_leastInUse_2 : decode cd_M_leastInUse 2 = .ok (.iconst 0, 1) := by decide +kernel
theorem dc_M_leastInUse_3 : decode cd_M_leastInUse 3 = .ok (.istore_n 2, 1) := by decide +kernel
theorem dc_M_leastInUse_4 : decode cd_M_leastInUse 4 = .ok (.iload_n 2, 1) := by decide +kernel
theorem dc_M_leastInUse_5 : decode cd_M_leastInUse 5 = .ok (.bipush 32, 2) := by decide +kernel
theorem dc_M_leastInUse_7 : decode cd_M_leastInUse 7 = .ok (.if_icmp .ge 52, 3) := by decide +kernel
theorem dc_M_leastInUse_10 : decode cd_M_leastInUse 10 = .ok (.aload_n 0, 1) := by decide +kernel
theorem dc_M_leastInUse_11 : decode cd_M_leastInUse 11 = .ok (.getfield 7, 3) := by decide +kernel
theorem dc_M_leastInUse_14 : decode cd_M_leastInUse 14 = .ok (.iload_n 2, 1) := by decide +kernel
theorem dc_M_leastInUse_15 : decode cd_M_leastInUse 15 = .ok (.baload, 1) := by decide +kernel
theorem dc_M_leastInUse_16 : decode cd_M_leastInUse 16 = .ok (.ifCond .eq 35, 3) := by decide +kernel
theorem dc_M_leastInUse_19 : decode cd_M_leastInUse 19 = .ok (.aload_n 0, 1) := by decide +kernel
theorem dc_M_leastInUse_20 : decode cd_M_leastInUse 20 = .ok (.getfield 13, 3) := by decide +kernel
theorem dc_M_leastInUse_23 : decode cd_M_leastInUse 23 = .ok (.iload_n 2, 1) := by decide +kernel
theorem dc_M_leastInUse_24 : decode cd_M_leastInUse 24 = .ok (.iaload, 1) := by decide +kernel
theorem dc_M_leastInUse_25 : decode cd_M_leastInUse 25 = .ok (.ifCond .le 26, 3) := by decide +kernel
theorem dc_M_leastInUse_28 : decode cd_M_leastInUse 28 = .ok (.iload_n 1, 1) := by decide +kernel
theorem dc_M_leastInUse_29 : decode cd_M_leastInUse 29 = .ok (.ifCond .eq 13, 3) := by decide +kernel
theorem dc_M_leastInUse_32 : decode cd_M_leastInUse 32 = .ok (.aload_n 0, 1) := by decide +kernel
theorem dc_M_leastInUse_33 : decode cd_M_leastInUse 33 = .ok (.getfield 13, 3) := by decide +kernel
theorem dc_M_leastInUse_36 : decode cd_M_leastInUse 36 = .ok (.iload_n 2, 1) := by decide +kernel
theorem dc_M_leastInUse_37 : decode cd_M_leastInUse 37 = .ok (.iaload, 1) := by decide +kernel
theorem dc_M_leastInUse_38 : decode cd_M_leastInUse 38 = .ok (.iload_n 1, 1) := by decide +kernel
theorem dc_M_leastInUse_39 : decode cd_M_leastInUse 39 = .ok (.if_icmp .ge 12, 3) := by decide +kernel
theorem dc_M_leastInUse_42 : decode cd_M_leastInUse 42 = .ok (.aload_n 0, 1) := by decide +kernel
theorem dc_M_leastInUse_43 : decode cd_M_leastInUse 43 = .ok (.getfield 13, 3) := by decide +kernel
theorem dc_M_leastInUse_46 : decode cd_M_leastInUse 46 = .ok (.iload_n 2, 1) := by decide +kernel
theorem dc_M_leastInUse_47 : decode cd_M_leastInUse 47 = .ok (.iaload, 1) := by decide +kernel
theorem dc_M_leastInUse_48 : decode cd_M_leastInUse 48 = .ok (.goto 4, 3) := by decide +kernel
theorem dc_M_leastInUse_51 : decode cd_M_leastInUse 51 = .ok (.iload_n 1, 1) := by decide +kernel
theorem dc_M_leastInUse_52 : decode cd_M_leastInUse 52 = .ok (.istore_n 1, 1) := by decide +kernel
theorem dc_M_leastInUse_53 : decode cd_M_leastInUse 53 = .ok (.iinc 2 1, 3) := by decide +kernel
theorem dc_M_leastInUse_56 : decode cd_M_leastInUse 56 = .ok (.goto (-52), 3) := by decide +kernel
theorem dc_M_leastInUse_59 : decode cd_M_leastInUse 59 = .ok (.iload_n 1, 1) := by decide +kernel
theorem dc_M_leastInUse_60 : decode cd_M_leastInUse 60 = .ok (.ireturn, 1) := by decide +kernel
theorem dc_M_oldest_0 : decode cd_M_oldest 0 = .ok (.aload_n 0, 1) := by decide +kernel
theorem dc_M_oldest_1 : decode cd_M_oldest 1 = .ok (.iconst 0, 1) := by decide +kernel
theorem dc_M_oldest_2 : decode cd_M_oldest 2 = .ok (.putfield 99, 3) := by decide +kernel
theorem dc_M_oldest_5 : decode cd_M_oldest 5 = .ok (.aload_n 0, 1) := by decide +kernel
theorem dc_M_oldest_6 : decode cd_M_oldest 6 = .ok (.invokevirtual 153, 3) := by decide +kernel
theorem dc_M_oldest_9 : decode cd_M_oldest 9 = .ok (.ireturn, 1) := by decide +kernel
theorem dc_M_node_0 : decode cd_M_node 0 = .ok (.iconst (-1), 1) := by decide +kernel
theorem dc_M_node_1 : decode cd_M_node 1 = .ok (.istore_n 3, 1) := by decide +kernel
theorem dc_M_node_2 : decode cd_M_node 2 = .ok (.iconst 0, 1) := by decide +kernel
theorem dc_M_node_3 : decode cd_M_node 3 = .ok (.istore 4, 2) := by decide +kernel
theorem dc_M_node_5 : decode cd_M_node 5 = .ok (.iload 4, 2) := by decide +kernel
theorem dc_M_node_7 : decode cd_M_node 7 = .ok (.bipush 32, 2) := by decide +kernel
theorem dc_M_node_9 : decode cd_M_node 9 = .ok (.if_icmp .ge 41, 3) := by decide +kernel
theorem dc_M_node_12 : decode cd_M_node 12 = .ok (.aload_n 0, 1) := by decide +kernel
theorem dc_M_node_13 : decode cd_M_node 13 = .ok (.getfield 7, 3) := by decide +kernel
theorem dc_M_node_16 : decode cd_M_node 16 = .ok (.iload 4, 2) := by decide +kernel
theorem dc_M_node_18 : decode cd_M_node 18 = .ok (.baload, 1) := by decide +kernel
theorem dc_M_node_19 : decode cd_M_node 19 = .ok (.ifCond .eq 23, 3) := by decide +kernel
theorem dc_M_node_22 : decode cd_M_node 22 = .ok (.iload_n 1, 1) := by decide +kernel
theorem dc_M_node_23 : decode cd_M_node 23 = .ok (.ifCond .le 19, 3) := by decide +kernel
theorem dc_M_node_26 : decode cd_M_node 26 = .ok (.aload_n 0, 1) := by decide +kernel
theorem dc_M_node_27 : decode cd_M_node 27 = .ok (.getfield 13, 3) := by decide +kernel
theorem dc_M_node_30 : decode cd_M_node 30 = .ok (.iload 4, 2) := by decide +kernel
theorem dc_M_node_32 : decode cd_M_node 32 = .ok (.iaload, 1) := by decide +kernel
theorem dc_M_node_33 : decode cd_M_node 33 = .ok (.iload_n 1, 1) := by decide +kernel
theorem dc_M_node_34 : decode cd_M_node 34 = .ok (.if_icmp .ne 8, 3) := by decide +kernel
theorem dc_M_node_37 : decode cd_M_node 37 = .ok (.iload 4, 2) := by decide +kernel
theorem dc_M_node_39 : decode cd_M_node 39 = .ok (.goto 4, 3) := by decide +kernel
theorem dc_M_node_42 : decode cd_M_node 42 = .ok (.iload_n 3, 1) := by decide +kernel
theorem dc_M_node_43 : decode cd_M_node 43 = .ok (.istore_n 3, 1) := by decide +kernel
theorem dc_M_node_44 : decode cd_M_node 44 = .ok (.iinc 4 1, 3) := by decide +kernel
theorem dc_M_node_47 : decode cd_M_node 47 = .ok (.goto (-42), 3) := by decide +kernel
theorem dc_M_node_50 : decode cd_M_node 50 = .ok (.aload_n 0, 1) := by decide +kernel
theorem dc_M_node_51 : decode cd_M_node 51 = .ok (.iload_n 3, 1) := by decide +kernel
theorem dc_M_node_52 : decode cd_M_node 52 = .ok (.ifCond .ge 7, 3) := by decide +kernel
theorem dc_M_node_55 : decode cd_M_node 55 = .ok (.iconst 1, 1) := by decide +kernel
theorem dc_M_node_56 : decode cd_M_node 56 = .ok (.goto 17, 3) := by decide +kernel
theorem dc_M_node_59 : decode cd_M_node 59 = .ok (.iload_n 2, 1) := by decide +kernel
theorem dc_M_node_60 : decode cd_M_node 60 = .ok (.ifCond .lt 8, 3) := by decide +kernel
theorem dc_M_node_63 : decode cd_M_node 63 = .ok (.iload_n 2, 1) := by decide +kernel
theorem dc_M_node_64 : decode cd_M_node 64 = .ok (.iconst 3, 1) := by decide +kernel
theorem dc_M_node_65 : decode cd_M_node 65 = .ok (.if_icmp .le 7, 3) := by decide +kernel
theorem dc_M_node_68 : decode cd_M_node 68 = .ok (.iconst 2, 1) := by decide +kernel
theorem dc_M_node_69 : decode cd_M_node 69 = .ok (.goto 4, 3) := by decide +kernel
theorem dc_M_node_72 : decode cd_M_node 72 = .ok (.iconst 0, 1) := by decide +kernel
theorem dc_M_node_73 : decode cd_M_node 73 = .ok (.invokevirtual 123, 3) := by decide +kernel
theorem dc_M_node_76 : decode cd_M_node 76 = .ok (.ifCond .eq 5, 3) := by decide +kernel
theorem dc_M_node_79 : decode cd_M_node 79 = .ok (.iconst 0, 1) := by decide +kernel
theorem dc_M_node_80 : decode cd_M_node 80 = .ok (.ireturn, 1) := by decide +kernel
theorem dc_M_node_81 : decode cd_M_node 81 = .ok (.iload_n 1, 1) := by decide +kernel
theorem dc_M_node_82 : decode cd_M_node 82 = .ok (.iconst 1, 1) := by decide +kernel
theorem dc_M_node_83 : decode cd_M_node 83 = .ok (.if_icmp .ne 5, 3) := by decide +kernel
theorem dc_M_node_86 : decode cd_M_node 86 = .ok (.iconst (-1), 1) := by decide +kernel
theorem dc_M_node_87 : decode cd_M_node 87 = .ok (.ireturn, 1) := by decide +kernel
theorem dc_M_node_88 : decode cd_M_node 88 = .ok (.iload_n 2, 1) := by decide +kernel
theorem dc_M_node_89 : decode cd_M_node 89 = .ok (.ifCond .ne 12, 3) := by decide +kernel
theorem dc_M_node_92 : decode cd_M_node 92 = .ok (.aload_n 0, 1) := by decide +kernel
theorem dc_M_node_93 : decode cd_M_node 93 = .ok (.getfield 20, 3) := by decide +kernel
theorem dc_M_node_96 : decode cd_M_node 96 = .ok (.iload_n 3, 1) := by decide +kernel
theorem dc_M_node_97 : decode cd_M_node 97 = .ok (.iaload, 1) := by decide +kernel
theorem dc_M_node_98 : decode cd_M_node 98 = .ok (.goto 37, 3) := by decide +kernel
theorem dc_M_node_101 : decode cd_M_node 101 = .ok (.iload_n 2, 1) := by decide +kernel
theorem dc_M_node_102 : decode cd_M_node 102 = .ok (.iconst 1, 1) := by decide +kernel
theorem dc_M_node_103 : decode cd_M_node 103 = .ok (.if_icmp .ne 12, 3) := by decide +kernel
theorem dc_M_node_106 : decode cd_M_node 106 = .ok (.aload_n 0, 1) := by decide +kernel
theorem dc_M_node_107 : decode cd_M_node 107 = .ok (.getfield 23, 3) := by decide +kernel
theorem dc_M_node_110 : decode cd_M_node 110 = .ok (.iload_n 3, 1) := by decide +kernel
theorem dc_M_node_111 : decode cd_M_node 111 = .ok (.iaload, 1) := by decide +kernel
theorem dc_M_node_112 : decode cd_M_node 112 = .ok (.goto 23, 3) := by decide +kernel
theorem dc_M_node_115 : decode cd_M_node 115 = .ok (.iload_n 2, 1) := by decide +kernel
theorem dc_M_node_116 : decode cd_M_node 116 = .ok (.iconst 2, 1) := by decide +kernel
theorem dc_M_node_117 : decode cd_M_node 117 = .ok (.if_icmp .ne 12, 3) := by decide +kernel
theorem dc_M_node_120 : decode cd_M_node 120 = .ok (.aload_n 0, 1) := by decide +kernel
theorem dc_M_node_121 : decode cd_M_node 121 = .ok (.getfield 26, 3) := by decide +kernel
theorem dc_M_node_124 : decode cd_M_node 124 = .ok (.iload_n 3, 1) := by decide +kernel
theorem dc_M_node_125 : decode cd_M_node 125 = .ok (.iaload, 1) := by decide +kernel
theorem dc_M_node_126 : decode cd_M_node 126 = .ok (.goto 9, 3) := by decide +kernel
theorem dc_M_node_129 : decode cd_M_node 129 = .ok (.aload_n 0, 1) := by decide +kernel
theorem dc_M_node_130 : decode cd_M_node 130 = .ok (.getfield 29, 3) := by decide +kernel
theorem dc_M_node_133 : decode cd_M_node 133 = .ok (.iload_n 3, 1) := by decide +kernel
theorem dc_M_node_134 : decode cd_M_node 134 = .ok (.iaload, 1) := by decide +kernel
theorem dc_M_node_135 : decode cd_M_node 135 = .ok (.ireturn, 1) := by decide +kernel
theorem dc_M_stage_0 : decode cd_M_stage 0 = .ok (.aload_n 0, 1) := by decide +kernel
theorem dc_M_stage_1 : decode cd_M_stage 1 = .ok (.aload_n 0, 1) := by decide +kernel
theorem dc_M_stage_2 : decode cd_M_stage 2 = .ok (.iload_n 1, 1) := by decide +kernel
theorem dc_M_stage_3 : decode cd_M_stage 3 = .ok (.invokevirtual 119, 3) := by decide +kernel
theorem dc_M_stage_6 : decode cd_M_stage 6 = .ok (.ifCond .eq 7, 3) := by decide +kernel
theorem dc_M_stage_9 : decode cd_M_stage 9 = .ok (.iconst 0, 1) := by decide +kernel
theorem dc_M_stage_10 : decode cd_M_stage 10 = .ok (.goto 4, 3) := by decide +kernel
theorem dc_M_stage_13 : decode cd_M_stage 13 = .ok (.iconst 1, 1) := by decide +kernel
theorem dc_M_stage_14 : decode cd_M_stage 14 = .ok (.invokevirtual 123, 3) := by decide +kernel
theorem dc_M_stage_17 : decode cd_M_stage 17 = .ok (.ifCond .eq 7, 3) := by decide +kernel
theorem dc_M_stage_20 : decode cd_M_stage 20 = .ok (.iconst 0, 1) := by decide +kernel
theorem dc_M_stage_21 : decode cd_M_stage 21 = .ok (.goto 9, 3) := by decide +kernel
theorem dc_M_stage_24 : decode cd_M_stage 24 = .ok (.aload_n 0, 1) := by decide +kernel
theorem dc_M_stage_25 : decode cd_M_stage 25 = .ok (.getfield 38, 3) := by decide +kernel
theorem dc_M_stage_28 : decode cd_M_stage 28 = .ok (.iload_n 1, 1) := by decide +kernel
theorem dc_M_stage_29 : decode cd_M_stage 29 = .ok (.iaload, 1) := by decide +kernel
theorem dc_M_stage_30 : decode cd_M_stage 30 = .ok (.ireturn, 1) := by decide +kernel
theorem dc_M_head_0 : decode cd_M_head 0 = .ok (.aload_n 0, 1) := by decide +kernel
theorem dc_M_head_1 : decode cd_M_head 1 = .ok (.aload_n 0, 1) := by decide +kernel
theorem dc_M_head_2 : decode cd_M_head 2 = .ok (.iload_n 1, 1) := by decide +kernel
theorem dc_M_head_3 : decode cd_M_head 3 = .ok (.invokevirtual 119, 3) := by decide +kernel
theorem dc_M_head_6 : decode cd_M_head 6 = .ok (.ifCond .eq 7, 3) := by decide +kernel
theorem dc_M_head_9 : decode cd_M_head 9 = .ok (.iconst 0, 1) := by decide +kernel
theorem dc_M_head_10 : decode cd_M_head 10 = .ok (.goto 4, 3) := by decide +kernel
theorem dc_M_head_13 : decode cd_M_head 13 = .ok (.iconst 1, 1) := by decide +kernel
theorem dc_M_head_14 : decode cd_M_head 14 = .ok (.invokevirtual 123, 3) := by decide +kernel
theorem dc_M_head_17 : decode cd_M_head 17 = .ok (.ifCond .eq 7, 3) := by decide +kernel
theorem dc_M_head_20 : decode cd_M_head 20 = .ok (.iconst 0, 1) := by decide +kernel
theorem dc_M_head_21 : decode cd_M_head 21 = .ok (.goto 14, 3) := by decide +kernel
theorem dc_M_head_24 : decode cd_M_head 24 = .ok (.aload_n 0, 1) := by decide +kernel
theorem dc_M_head_25 : decode cd_M_head 25 = .ok (.getfield 13, 3) := by decide +kernel
theorem dc_M_head_28 : decode cd_M_head 28 = .ok (.aload_n 0, 1) := by decide +kernel
theorem dc_M_head_29 : decode cd_M_head 29 = .ok (.getfield 32, 3) := by decide +kernel
theorem dc_M_head_32 : decode cd_M_head 32 = .ok (.iload_n 1, 1) := by decide +kernel
theorem dc_M_head_33 : decode cd_M_head 33 = .ok (.iaload, 1) := by decide +kernel
theorem dc_M_head_34 : decode cd_M_head 34 = .ok (.iaload, 1) := by decide +kernel
theorem dc_M_head_35 : decode cd_M_head 35 = .ok (.ireturn, 1) := by decide +kernel
theorem dc_M_inUseCount_0 : decode cd_M_inUseCount 0 = .ok (.iconst 0, 1) := by decide +kernel
theorem dc_M_inUseCount_1 : decode cd_M_inUseCount 1 = .ok (.istore_n 1, 1) := by decide +kernel
theorem dc_M_inUseCount_2 : decode cd_M_inUseCount 2 = .ok (.iconst 0, 1) := by decide +kernel
theorem dc_M_inUseCount_3 : decode cd_M_inUseCount 3 = .ok (.istore_n 2, 1) := by decide +kernel
theorem dc_M_inUseCount_4 : decode cd_M_inUseCount 4 = .ok (.iload_n 2, 1) := by decide +kernel
theorem dc_M_inUseCount_5 : decode cd_M_inUseCount 5 = .ok (.bipush 32, 2) := by decide +kernel
theorem dc_M_inUseCount_7 : decode cd_M_inUseCount 7 = .ok (.if_icmp .ge 26, 3) := by decide +kernel
theorem dc_M_inUseCount_10 : decode cd_M_inUseCount 10 = .ok (.aload_n 0, 1) := by decide +kernel
theorem dc_M_inUseCount_11 : decode cd_M_inUseCount 11 = .ok (.getfield 7, 3) := by decide +kernel
theorem dc_M_inUseCount_14 : decode cd_M_inUseCount 14 = .ok (.iload_n 2, 1) := by decide +kernel
theorem dc_M_inUseCount_15 : decode cd_M_inUseCount 15 = .ok (.baload, 1) := by decide +kernel
theorem dc_M_inUseCount_16 : decode cd_M_inUseCount 16 = .ok (.ifCond .eq 9, 3) := by decide +kernel
theorem dc_M_inUseCount_19 : decode cd_M_inUseCount 19 = .ok (.iload_n 1, 1) := by decide +kernel
theorem dc_M_inUseCount_20 : decode cd_M_inUseCount 20 = .ok (.iconst 1, 1) := by decide +kernel
theorem dc_M_inUseCount_21 : decode cd_M_inUseCount 21 = .ok (.iadd, 1) := by decide +kernel
theorem dc_M_inUseCount_22 : decode cd_M_inUseCount 22 = .ok (.goto 4, 3) := by decide +kernel
theorem dc_M_inUseCount_25 : decode cd_M_inUseCount 25 = .ok (.iload_n 1, 1) := by decide +kernel
theorem dc_M_inUseCount_26 : decode cd_M_inUseCount 26 = .ok (.istore_n 1, 1) := by decide +kernel
theorem dc_M_inUseCount_27 : decode cd_M_inUseCount 27 = .ok (.iinc 2 1, 3) := by decide +kernel
theorem dc_M_inUseCount_30 : decode cd_M_inUseCount 30 = .ok (.goto (-26), 3) := by decide +kernel
theorem dc_M_inUseCount_33 : decode cd_M_inUseCount 33 = .ok (.iload_n 1, 1) := by decide +kernel
theorem dc_M_inUseCount_34 : decode cd_M_inUseCount 34 = .ok (.ireturn, 1) := by decide +kernel
theorem dc_M_used_0 : decode cd_M_used 0 = .ok (.aload_n 0, 1) := by decide +kernel
theorem dc_M_used_1 : decode cd_M_used 1 = .ok (.iconst 0, 1) := by decide +kernel
theorem dc_M_used_2 : decode cd_M_used 2 = .ok (.putfield 99, 3) := by decide +kernel
theorem dc_M_used_5 : decode cd_M_used 5 = .ok (.aload_n 0, 1) := by decide +kernel
theorem dc_M_used_6 : decode cd_M_used 6 = .ok (.invokevirtual 157, 3) := by decide +kernel
theorem dc_M_used_9 : decode cd_M_used 9 = .ok (.ireturn, 1) := by decide +kernel
theorem dc_M_cut_0 : decode cd_M_cut 0 = .ok (.aload_n 0, 1) := by decide +kernel
theorem dc_M_cut_1 : decode cd_M_cut 1 = .ok (.iconst 0, 1) := by decide +kernel
theorem dc_M_cut_2 : decode cd_M_cut 2 = .ok (.putfield 99, 3) := by decide +kernel
theorem dc_M_cut_5 : decode cd_M_cut 5 = .ok (.iconst 0, 1) := by decide +kernel
theorem dc_M_cut_6 : decode cd_M_cut 6 = .ok (.istore_n 1, 1) := by decide +kernel
theorem dc_M_cut_7 : decode cd_M_cut 7 = .ok (.iconst 1, 1) := by decide +kernel
theorem dc_M_cut_8 : decode cd_M_cut 8 = .ok (.istore_n 2, 1) := by decide +kernel
theorem dc_M_cut_9 : decode cd_M_cut 9 = .ok (.iload_n 2, 1) := by decide +kernel
theorem dc_M_cut_10 : decode cd_M_cut 10 = .ok (.aload_n 0, 1) := by decide +kernel
theorem dc_M_cut_11 : decode cd_M_cut 11 = .ok (.getfield 90, 3) := by decide +kernel
theorem dc_M_cut_14 : decode cd_M_cut 14 = .ok (.if_icmp .ge 40, 3) := by decide +kernel
theorem dc_M_cut_17 : decode cd_M_cut 17 = .ok (.aload_n 0, 1) := by decide +kernel
theorem dc_M_cut_18 : decode cd_M_cut 18 = .ok (.getfield 13, 3) := by decide +kernel
theorem dc_M_cut_21 : decode cd_M_cut 21 = .ok (.aload_n 0, 1) := by decide +kernel
theorem dc_M_cut_22 : decode cd_M_cut 22 = .ok (.getfield 32, 3) := by decide +kernel
theorem dc_M_cut_25 : decode cd_M_cut 25 = .ok (.iload_n 2, 1) := by decide +kernel
theorem dc_M_cut_26 : decode cd_M_cut 26 = .ok (.iaload, 1) := by decide +kernel
theorem dc_M_cut_27 : decode cd_M_cut 27 = .ok (.iaload, 1) := by decide +kernel
theorem dc_M_cut_28 : decode cd_M_cut 28 = .ok (.aload_n 0, 1) := by decide +kernel
theorem dc_M_cut_29 : decode cd_M_cut 29 = .ok (.getfield 13, 3) := by decide +kernel
theorem dc_M_cut_32 : decode cd_M_cut 32 = .ok (.aload_n 0, 1) := by decide +kernel
theorem dc_M_cut_33 : decode cd_M_cut 33 = .ok (.getfield 32, 3) := by decide +kernel
theorem dc_M_cut_36 : decode cd_M_cut 36 = .ok (.iload_n 1, 1) := by decide +kernel
theorem dc_M_cut_37 : decode cd_M_cut 37 = .ok (.iaload, 1) := by decide +kernel
theorem dc_M_cut_38 : decode cd_M_cut 38 = .ok (.iaload, 1) := by decide +kernel
theorem dc_M_cut_39 : decode cd_M_cut 39 = .ok (.if_icmp .le 7, 3) := by decide +kernel
theorem dc_M_cut_42 : decode cd_M_cut 42 = .ok (.iload_n 2, 1) := by decide +kernel
theorem dc_M_cut_43 : decode cd_M_cut 43 = .ok (.goto 4, 3) := by decide +kernel
theorem dc_M_cut_46 : decode cd_M_cut 46 = .ok (.iload_n 1, 1) := by decide +kernel
theorem dc_M_cut_47 : decode cd_M_cut 47 = .ok (.istore_n 1, 1) := by decide +kernel
theorem dc_M_cut_48 : decode cd_M_cut 48 = .ok (.iinc 2 1, 3) := by decide +kernel
theorem dc_M_cut_51 : decode cd_M_cut 51 = .ok (.goto (-42), 3) := by decide +kernel
theorem dc_M_cut_54 : decode cd_M_cut 54 = .ok (.aload_n 0, 1) := by decide +kernel
theorem dc_M_cut_55 : decode cd_M_cut 55 = .ok (.getfield 32, 3) := by decide +kernel
theorem dc_M_cut_58 : decode cd_M_cut 58 = .ok (.iload_n 1, 1) := by decide +kernel
theorem dc_M_cut_59 : decode cd_M_cut 59 = .ok (.iaload, 1) := by decide +kernel
theorem dc_M_cut_60 : decode cd_M_cut 60 = .ok (.istore_n 2, 1) := by decide +kernel
theorem dc_M_cut_61 : decode cd_M_cut 61 = .ok (.aload_n 0, 1) := by decide +kernel
theorem dc_M_cut_62 : decode cd_M_cut 62 = .ok (.getfield 13, 3) := by decide +kernel
theorem dc_M_cut_65 : decode cd_M_cut 65 = .ok (.iload_n 2, 1) := by decide +kernel
theorem dc_M_cut_66 : decode cd_M_cut 66 = .ok (.iaload, 1) := by decide +kernel
theorem dc_M_cut_67 : decode cd_M_cut 67 = .ok (.istore_n 3, 1) := by decide +kernel
theorem dc_M_cut_68 : decode cd_M_cut 68 = .ok (.iconst 0, 1) := by decide +kernel
theorem dc_M_cut_69 : decode cd_M_cut 69 = .ok (.istore 4, 2) := by decide +kernel
theorem dc_M_cut_71 : decode cd_M_cut 71 = .ok (.iload 4, 2) := by decide +kernel
theorem dc_M_cut_73 : decode cd_M_cut 73 = .ok (.aload_n 0, 1) := by decide +kernel
theorem dc_M_cut_74 : decode cd_M_cut 74 = .ok (.getfield 90, 3) := by decide +kernel
theorem dc_M_cut_77 : decode cd_M_cut 77 = .ok (.if_icmp .ge 71, 3) := by decide +kernel
theorem dc_M_cut_80 : decode cd_M_cut 80 = .ok (.aload_n 0, 1) := by decide +kernel
theorem dc_M_cut_81 : decode cd_M_cut 81 = .ok (.getfield 32, 3) := by decide +kernel
theorem dc_M_cut_84 : decode cd_M_cut 84 = .ok (.iload 4, 2) := by decide +kernel
theorem dc_M_cut_86 : decode cd_M_cut 86 = .ok (.aload_n 0, 1) := by decide +kernel
theorem dc_M_cut_87 : decode cd_M_cut 87 = .ok (.getfield 38, 3) := by decide +kernel
theorem dc_M_cut_90 : decode cd_M_cut 90 = .ok (.iload 4, 2) := by decide +kernel
theorem dc_M_cut_92 : decode cd_M_cut 92 = .ok (.iaload, 1) := by decide +kernel
theorem dc_M_cut_93 : decode cd_M_cut 93 = .ok (.iconst (-1), 1) := by decide +kernel
theorem dc_M_cut_94 : decode cd_M_cut 94 = .ok (.if_icmp .ne 7, 3) := by decide +kernel
theorem dc_M_cut_97 : decode cd_M_cut 97 = .ok (.iload_n 2, 1) := by decide +kernel
theorem dc_M_cut_98 : decode cd_M_cut 98 = .ok (.goto 10, 3) := by decide +kernel
theorem dc_M_cut_101 : decode cd_M_cut 101 = .ok (.aload_n 0, 1) := by decide +kernel
theorem dc_M_cut_102 : decode cd_M_cut 102 = .ok (.getfield 32, 3) := by decide +kernel
theorem dc_M_cut_105 : decode cd_M_cut 105 = .ok (.iload 4, 2) := by decide +kernel
theorem dc_M_cut_107 : decode cd_M_cut 107 = .ok (.iaload, 1) := by decide +kernel
theorem dc_M_cut_108 : decode cd_M_cut 108 = .ok (.iastore, 1) := by decide +kernel
theorem dc_M_cut_109 : decode cd_M_cut 109 = .ok (.aload_n 0, 1) := by decide +kernel
theorem dc_M_cut_110 : decode cd_M_cut 110 = .ok (.getfield 13, 3) := by decide +kernel
theorem dc_M_cut_113 : decode cd_M_cut 113 = .ok (.aload_n 0, 1) := by decide +kernel
theorem dc_M_cut_114 : decode cd_M_cut 114 = .ok (.getfield 32, 3) := by decide +kernel
theorem dc_M_cut_117 : decode cd_M_cut 117 = .ok (.iload 4, 2) := by decide +kernel
theorem dc_M_cut_119 : decode cd_M_cut 119 = .ok (.iaload, 1) := by decide +kernel
theorem dc_M_cut_120 : decode cd_M_cut 120 = .ok (.iaload, 1) := by decide +kernel
theorem dc_M_cut_121 : decode cd_M_cut 121 = .ok (.iload_n 3, 1) := by decide +kernel
theorem dc_M_cut_122 : decode cd_M_cut 122 = .ok (.if_icmp .ge 18, 3) := by decide +kernel
theorem dc_M_cut_125 : decode cd_M_cut 125 = .ok (.aload_n 0, 1) := by decide +kernel
theorem dc_M_cut_126 : decode cd_M_cut 126 = .ok (.getfield 13, 3) := by decide +kernel
theorem dc_M_cut_129 : decode cd_M_cut 129 = .ok (.aload_n 0, 1) := by decide +kernel
theorem dc_M_cut_130 : decode cd_M_cut 130 = .ok (.getfield 32, 3) := by decide +kernel
theorem dc_M_cut_133 : decode cd_M_cut 133 = .ok (.iload 4, 2) := by decide +kernel
theorem dc_M_cut_135 : decode cd_M_cut 135 = .ok (.iaload, 1) := by decide +kernel
theorem dc_M_cut_136 : decode cd_M_cut 136 = .ok (.iaload, 1) := by decide +kernel
theorem dc_M_cut_137 : decode cd_M_cut 137 = .ok (.goto 4, 3) := by decide +kernel
theorem dc_M_cut_140 : decode cd_M_cut 140 = .ok (.iload_n 3, 1) := by decide +kernel
theorem dc_M_cut_141 : decode cd_M_cut 141 = .ok (.istore_n 3, 1) := by decide +kernel
theorem dc_M_cut_142 : decode cd_M_cut 142 = .ok (.iinc 4 1, 3) := by decide +kernel
theorem dc_M_cut_145 : decode cd_M_cut 145 = .ok (.goto (-74), 3) := by decide +kernel
theorem dc_M_cut_148 : decode cd_M_cut 148 = .ok (.aload_n 0, 1) := by decide +kernel
theorem dc_M_cut_149 : decode cd_M_cut 149 = .ok (.invokevirtual 157, 3) := by decide +kernel
theorem dc_M_cut_152 : decode cd_M_cut 152 = .ok (.istore 4, 2) := by decide +kernel
theorem dc_M_cut_154 : decode cd_M_cut 154 = .ok (.iconst 0, 1) := by decide +kernel
theorem dc_M_cut_155 : decode cd_M_cut 155 = .ok (.istore 5, 2) := by decide +kernel
theorem dc_M_cut_157 : decode cd_M_cut 157 = .ok (.iload 5, 2) := by decide +kernel
theorem dc_M_cut_159 : decode cd_M_cut 159 = .ok (.bipush 32, 2) := by decide +kernel
theorem dc_M_cut_161 : decode cd_M_cut 161 = .ok (.if_icmp .ge 48, 3) := by decide +kernel
theorem dc_M_cut_164 : decode cd_M_cut 164 = .ok (.aload_n 0, 1) := by decide +kernel
theorem dc_M_cut_165 : decode cd_M_cut 165 = .ok (.getfield 7, 3) := by decide +kernel
theorem dc_M_cut_168 : decode cd_M_cut 168 = .ok (.iload 5, 2) := by decide +kernel
theorem dc_M_cut_170 : decode cd_M_cut 170 = .ok (.baload, 1) := by decide +kernel
theorem dc_M_cut_171 : decode cd_M_cut 171 = .ok (.ifCond .eq 32, 3) := by decide +kernel
theorem dc_M_cut_174 : decode cd_M_cut 174 = .ok (.aload_n 0, 1) := by decide +kernel
theorem dc_M_cut_175 : decode cd_M_cut 175 = .ok (.getfield 13, 3) := by decide +kernel
theorem dc_M_cut_178 : decode cd_M_cut 178 = .ok (.iload 5, 2) := by decide +kernel
theorem dc_M_cut_180 : decode cd_M_cut 180 = .ok (.iaload, 1) := by decide +kernel
theorem dc_M_cut_181 : decode cd_M_cut 181 = .ok (.ifCond .le 22, 3) := by decide +kernel
theorem dc_M_cut_184 : decode cd_M_cut 184 = .ok (.aload_n 0, 1) := by decide +kernel
theorem dc_M_cut_185 : decode cd_M_cut 185 = .ok (.getfield 13, 3) := by decide +kernel
theorem dc_M_cut_188 : decode cd_M_cut 188 = .ok (.iload 5, 2) := by decide +kernel
theorem dc_M_cut_190 : decode cd_M_cut 190 = .ok (.iaload, 1) := by decide +kernel
theorem dc_M_cut_191 : decode cd_M_cut 191 = .ok (.iload_n 3, 1) := by decide +kernel
theorem dc_M_cut_192 : decode cd_M_cut 192 = .ok (.if_icmp .ge 11, 3) := by decide +kernel
theorem dc_M_cut_195 : decode cd_M_cut 195 = .ok (.aload_n 0, 1) := by decide +kernel
theorem dc_M_cut_196 : decode cd_M_cut 196 = .ok (.getfield 7, 3) := by decide +kernel
theorem dc_M_cut_199 : decode cd_M_cut 199 = .ok (.iload 5, 2) := by decide +kernel
theorem dc_M_cut_201 : decode cd_M_cut 201 = .ok (.iconst 0, 1) := by decide +kernel
theorem dc_M_cut_202 : decode cd_M_cut 202 = .ok (.bastore, 1) := by decide +kernel
theorem dc_M_cut_203 : decode cd_M_cut 203 = .ok (.iinc 5 1, 3) := by decide +kernel
theorem dc_M_cut_206 : decode cd_M_cut 206 = .ok (.goto (-49), 3) := by decide +kernel
theorem dc_M_cut_209 : decode cd_M_cut 209 = .ok (.iload 4, 2) := by decide +kernel
theorem dc_M_cut_211 : decode cd_M_cut 211 = .ok (.aload_n 0, 1) := by decide +kernel
theorem dc_M_cut_212 : decode cd_M_cut 212 = .ok (.invokevirtual 157, 3) := by decide +kernel
theorem dc_M_cut_215 : decode cd_M_cut 215 = .ok (.isub, 1) := by decide +kernel
theorem dc_M_cut_216 : decode cd_M_cut 216 = .ok (.ireturn, 1) := by decide +kernel
theorem dc_M_peek_0 : decode cd_M_peek 0 = .ok (.aload_n 0, 1) := by decide +kernel
theorem dc_M_peek_1 : decode cd_M_peek 1 = .ok (.iload_n 1, 1) := by decide +kernel
theorem dc_M_peek_2 : decode cd_M_peek 2 = .ok (.ifCond .lt 8, 3) := by decide +kernel
theorem dc_M_peek_5 : decode cd_M_peek 5 = .ok (.iload_n 1, 1) := by decide +kernel
theorem dc_M_peek_6 : decode cd_M_peek 6 = .ok (.iconst 2, 1) := by decide +kernel
theorem dc_M_peek_7 : decode cd_M_peek 7 = .ok (.if_icmp .le 7, 3) := by decide +kernel
theorem dc_M_peek_10 : decode cd_M_peek 10 = .ok (.iconst 1, 1) := by decide +kernel
theorem dc_M_peek_11 : decode cd_M_peek 11 = .ok (.goto 4, 3) := by decide +kernel
theorem dc_M_peek_14 : decode cd_M_peek 14 = .ok (.iconst 0, 1) := by decide +kernel
theorem dc_M_peek_15 : decode cd_M_peek 15 = .ok (.invokevirtual 123, 3) := by decide +kernel
theorem dc_M_peek_18 : decode cd_M_peek 18 = .ok (.ifCond .eq 5, 3) := by decide +kernel
theorem dc_M_peek_21 : decode cd_M_peek 21 = .ok (.iconst 0, 1) := by decide +kernel
theorem dc_M_peek_22 : decode cd_M_peek 22 = .ok (.ireturn, 1) := by decide +kernel
theorem dc_M_peek_23 : decode cd_M_peek 23 = .ok (.aload_n 0, 1) := by decide +kernel
theorem dc_M_peek_24 : decode cd_M_peek 24 = .ok (.aload_n 0, 1) := by decide +kernel
theorem dc_M_peek_25 : decode cd_M_peek 25 = .ok (.getfield 93, 3) := by decide +kernel
theorem dc_M_peek_28 : decode cd_M_peek 28 = .ok (.invokevirtual 126, 3) := by decide +kernel
theorem dc_M_peek_31 : decode cd_M_peek 31 = .ok (.pop, 1) := by decide +kernel
theorem dc_M_peek_32 : decode cd_M_peek 32 = .ok (.aload_n 0, 1) := by decide +kernel
theorem dc_M_peek_33 : decode cd_M_peek 33 = .ok (.iload_n 1, 1) := by decide +kernel
theorem dc_M_peek_34 : decode cd_M_peek 34 = .ok (.iload_n 2, 1) := by decide +kernel
theorem dc_M_peek_35 : decode cd_M_peek 35 = .ok (.iload_n 3, 1) := by decide +kernel
theorem dc_M_peek_36 : decode cd_M_peek 36 = .ok (.invokevirtual 116, 3) := by decide +kernel
theorem dc_M_peek_39 : decode cd_M_peek 39 = .ok (.ireturn, 1) := by decide +kernel
theorem dc_M_plain_0 : decode cd_M_plain 0 = .ok (.aload_n 0, 1) := by decide +kernel
theorem dc_M_plain_1 : decode cd_M_plain 1 = .ok (.iload_n 1, 1) := by decide +kernel
theorem dc_M_plain_2 : decode cd_M_plain 2 = .ok (.ifCond .lt 8, 3) := by decide +kernel
theorem dc_M_plain_5 : decode cd_M_plain 5 = .ok (.iload_n 1, 1) := by decide +kernel
theorem dc_M_plain_6 : decode cd_M_plain 6 = .ok (.iconst 2, 1) := by decide +kernel
theorem dc_M_plain_7 : decode cd_M_plain 7 = .ok (.if_icmp .le 7, 3) := by decide +kernel
theorem dc_M_plain_10 : decode cd_M_plain 10 = .ok (.iconst 1, 1) := by decide +kernel
theorem dc_M_plain_11 : decode cd_M_plain 11 = .ok (.goto 4, 3) := by decide +kernel
theorem dc_M_plain_14 : decode cd_M_plain 14 = .ok (.iconst 0, 1) := by decide +kernel
theorem dc_M_plain_15 : decode cd_M_plain 15 = .ok (.invokevirtual 123, 3) := by decide +kernel
theorem dc_M_plain_18 : decode cd_M_plain 18 = .ok (.ifCond .eq 5, 3) := by decide +kernel
theorem dc_M_plain_21 : decode cd_M_plain 21 = .ok (.iconst 0, 1) := by decide +kernel
theorem dc_M_plain_22 : decode cd_M_plain 22 = .ok (.ireturn, 1) := by decide +kernel
theorem dc_M_plain_23 : decode cd_M_plain 23 = .ok (.aload_n 0, 1) := by decide +kernel
theorem dc_M_plain_24 : decode cd_M_plain 24 = .ok (.aload_n 0, 1) := by decide +kernel
theorem dc_M_plain_25 : decode cd_M_plain 25 = .ok (.getfield 160, 3) := by decide +kernel
theorem dc_M_plain_28 : decode cd_M_plain 28 = .ok (.putfield 102, 3) := by decide +kernel
theorem dc_M_plain_31 : decode cd_M_plain 31 = .ok (.iconst 0, 1) := by decide +kernel
theorem dc_M_plain_32 : decode cd_M_plain 32 = .ok (.istore 4, 2) := by decide +kernel
theorem dc_M_plain_34 : decode cd_M_plain 34 = .ok (.iload 4, 2) := by decide +kernel
theorem dc_M_plain_36 : decode cd_M_plain 36 = .ok (.bipush 8, 2) := by decide +kernel
theorem dc_M_plain_38 : decode cd_M_plain 38 = .ok (.if_icmp .ge 23, 3) := by decide +kernel
theorem dc_M_plain_41 : decode cd_M_plain 41 = .ok (.aload_n 0, 1) := by decide +kernel
theorem dc_M_plain_42 : decode cd_M_plain 42 = .ok (.getfield 80, 3) := by decide +kernel
theorem dc_M_plain_45 : decode cd_M_plain 45 = .ok (.iload 4, 2) := by decide +kernel
theorem dc_M_plain_47 : decode cd_M_plain 47 = .ok (.aload_n 0, 1) := by decide +kernel
theorem dc_M_plain_48 : decode cd_M_plain 48 = .ok (.getfield 83, 3) := by decide +kernel
theorem dc_M_plain_51 : decode cd_M_plain 51 = .ok (.iload 4, 2) := by decide +kernel
theorem dc_M_plain_53 : decode cd_M_plain 53 = .ok (.iaload, 1) := by decide +kernel
theorem dc_M_plain_54 : decode cd_M_plain 54 = .ok (.iastore, 1) := by decide +kernel
theorem dc_M_plain_55 : decode cd_M_plain 55 = .ok (.iinc 4 1, 3) := by decide +kernel
theorem dc_M_plain_58 : decode cd_M_plain 58 = .ok (.goto (-24), 3) := by decide +kernel
theorem dc_M_plain_61 : decode cd_M_plain 61 = .ok (.aload_n 0, 1) := by decide +kernel
theorem dc_M_plain_62 : decode cd_M_plain 62 = .ok (.iload_n 1, 1) := by decide +kernel
theorem dc_M_plain_63 : decode cd_M_plain 63 = .ok (.iload_n 2, 1) := by decide +kernel
theorem dc_M_plain_64 : decode cd_M_plain 64 = .ok (.iload_n 3, 1) := by decide +kernel
theorem dc_M_plain_65 : decode cd_M_plain 65 = .ok (.invokevirtual 116, 3) := by decide +kernel
theorem dc_M_plain_68 : decode cd_M_plain 68 = .ok (.istore 4, 2) := by decide +kernel
theorem dc_M_plain_70 : decode cd_M_plain 70 = .ok (.aload_n 0, 1) := by decide +kernel
theorem dc_M_plain_71 : decode cd_M_plain 71 = .ok (.aload_n 0, 1) := by decide +kernel
theorem dc_M_plain_72 : decode cd_M_plain 72 = .ok (.getfield 102, 3) := by decide +kernel
theorem dc_M_plain_75 : decode cd_M_plain 75 = .ok (.putfield 160, 3) := by decide +kernel
theorem dc_M_plain_78 : decode cd_M_plain 78 = .ok (.iconst 0, 1) := by decide +kernel
theorem dc_M_plain_79 : decode cd_M_plain 79 = .ok (.istore 5, 2) := by decide +kernel
theorem dc_M_plain_81 : decode cd_M_plain 81 = .ok (.iload 5, 2) := by decide +kernel
theorem dc_M_plain_83 : decode cd_M_plain 83 = .ok (.bipush 8, 2) := by decide +kernel
theorem dc_M_plain_85 : decode cd_M_plain 85 = .ok (.if_icmp .ge 23, 3) := by decide +kernel
theorem dc_M_plain_88 : decode cd_M_plain 88 = .ok (.aload_n 0, 1) := by decide +kernel
theorem dc_M_plain_89 : decode cd_M_plain 89 = .ok (.getfield 83, 3) := by decide +kernel
theorem dc_M_plain_92 : decode cd_M_plain 92 = .ok (.iload 5, 2) := by decide +kernel
theorem dc_M_plain_94 : decode cd_M_plain 94 = .ok (.aload_n 0, 1) := by decide +kernel
theorem dc_M_plain_95 : decode cd_M_plain 95 = .ok (.getfield 80, 3) := by decide +kernel
theorem dc_M_plain_98 : decode cd_M_plain 98 = .ok (.iload 5, 2) := by decide +kernel
theorem dc_M_plain_100 : decode cd_M_plain 100 = .ok (.iaload, 1) := by decide +kernel
theorem dc_M_plain_101 : decode cd_M_plain 101 = .ok (.iastore, 1) := by decide +kernel
theorem dc_M_plain_102 : decode cd_M_plain 102 = .ok (.iinc 5 1, 3) := by decide +kernel
theorem dc_M_plain_105 : decode cd_M_plain 105 = .ok (.goto (-24), 3) := by decide +kernel
theorem dc_M_plain_108 : decode cd_M_plain 108 = .ok (.iload 4, 2) := by decide +kernel
theorem dc_M_plain_110 : decode cd_M_plain 110 = .ok (.ireturn, 1) := by decide +kernel
end DEC_01x
end
section
section DEC_01y
theorem dc_H_init_0 : decode cd_H_init 0 = .ok (.aload_n 0, 1) := by decide +kernel
theorem dc_H_init_1 : decode cd_H_init 1 = .ok (.invokespecial 1, 3) := by decide +kernel
theorem dc_H_init_4 : decode cd_H_init 4 = .ok (.iconst 0, 1) := by decide +kernel
theorem dc_H_init_5 : decode cd_H_init 5 = .ok (.iconst 3, 1) := by decide +kernel
theorem dc_H_init_6 : decode cd_H_init 6 = .ok (.iload_n 1, 1) := by decide +kernel
theorem dc_H_init_7 : decode cd_H_init 7 = .ok (.invokestatic 9, 3) := by decide +kernel
theorem dc_H_init_10 : decode cd_H_init 10 = .ok (.invokestatic 15, 3) := by decide +kernel
theorem dc_H_init_13 : decode cd_H_init 13 = .ok (.istore_n 3, 1) := by decide +kernel
theorem dc_H_init_14 : decode cd_H_init 14 = .ok (.iconst 1, 1) := by decide +kernel
theorem dc_H_init_15 : decode cd_H_init 15 = .ok (.iconst 5, 1) := by decide +kernel
theorem dc_H_init_16 : decode cd_H_init 16 = .ok (.iload_n 2, 1) := by decide +kernel
theorem dc_H_init_17 : decode cd_H_init 17 = .ok (.invokestatic 9, 3) := by decide +kernel
theorem dc_H_init_20 : decode cd_H_init 20 = .ok (.invokestatic 15, 3) := by decide +kernel
theorem dc_H_init_23 : decode cd_H_init 23 = .ok (.istore 4, 2) := by decide +kernel
theorem dc_H_init_25 : decode cd_H_init 25 = .ok (.aload_n 0, 1) := by decide +kernel
theorem dc_H_init_26 : decode cd_H_init 26 = .ok (.iload_n 3, 1) := by decide +kernel
theorem dc_H_init_27 : decode cd_H_init 27 = .ok (.invokestatic 18, 3) := by decide +kernel
theorem dc_H_init_30 : decode cd_H_init 30 = .ok (.putfield 22, 3) := by decide +kernel
theorem dc_H_init_33 : decode cd_H_init 33 = .ok (.aload_n 0, 1) := by decide +kernel
theorem dc_H_init_34 : decode cd_H_init 34 = .ok (.iload_n 3, 1) := by decide +kernel
theorem dc_H_init_35 : decode cd_H_init 35 = .ok (.invokestatic 18, 3) := by decide +kernel
theorem dc_H_init_38 : decode cd_H_init 38 = .ok (.putfield 26, 3) := by decide +kernel
theorem dc_H_init_41 : decode cd_H_init 41 = .ok (.aload_n 0, 1) := by decide +kernel
theorem dc_H_init_42 : decode cd_H_init 42 = .ok (.iload_n 3, 1) := by decide +kernel
theorem dc_H_init_43 : decode cd_H_init 43 = .ok (.invokestatic 18, 3) := by decide +kernel
theorem dc_H_init_46 : decode cd_H_init 46 = .ok (.putfield 29, 3) := by decide +kernel
theorem dc_H_init_49 : decode cd_H_init 49 = .ok (.aload_n 0, 1) := by decide +kernel
theorem dc_H_init_50 : decode cd_H_init 50 = .ok (.bipush 32, 2) := by decide +kernel
theorem dc_H_init_52 : decode cd_H_init 52 = .ok (.anewarray 32, 3) := by decide +kernel
theorem dc_H_init_55 : decode cd_H_init 55 = .ok (.putfield 34, 3) := by decide +kernel
theorem dc_H_init_58 : decode cd_H_init 58 = .ok (.iconst 0, 1) := by decide +kernel
theorem dc_H_init_59 : decode cd_H_init 59 = .ok (.istore 5, 2) := by decide +kernel
theorem dc_H_init_61 : decode cd_H_init 61 = .ok (.iload 5, 2) := by decide +kernel
theorem dc_H_init_63 : decode cd_H_init 63 = .ok (.bipush 32, 2) := by decide +kernel
theorem dc_H_init_65 : decode cd_H_init 65 = .ok (.if_icmp .ge 23, 3) := by decide +kernel
theorem dc_H_init_68 : decode cd_H_init 68 = .ok (.aload_n 0, 1) := by decide +kernel
theorem dc_H_init_69 : decode cd_H_init 69 = .ok (.getfield 34, 3) := by decide +kernel
theorem dc_H_init_72 : decode cd_H_init 72 = .ok (.iload 5, 2) := by decide +kernel
theorem dc_H_init_74 : decode cd_H_init 74 = .ok (.new 32, 3) := by decide +kernel
theorem dc_H_init_77 : decode cd_H_init 77 = .ok (.dup, 1) := by decide +kernel
theorem dc_H_init_78 : decode cd_H_init 78 = .ok (.invokespecial 38, 3) := by decide +kernel
theorem dc_H_init_81 : decode cd_H_init 81 = .ok (.aastore, 1) := by decide +kernel
theorem dc_H_init_82 : decode cd_H_init 82 = .ok (.iinc 5 1, 3) := by decide +kernel
theorem dc_H_init_85 : decode cd_H_init 85 = .ok (.goto (-24), 3) := by decide +kernel
theorem dc_H_init_88 : decode cd_H_init 88 = .ok (.aload_n 0, 1) := by decide +kernel
theorem dc_H_init_89 : decode cd_H_init 89 = .ok (.getfield 34, 3) := by decide +kernel
theorem dc_H_init_92 : decode cd_H_init 92 = .ok (.iconst 0, 1) := by decide +kernel
theorem dc_H_init_93 : decode cd_H_init 93 = .ok (.aaload, 1) := by decide +kernel
theorem dc_H_init_94 : decode cd_H_init 94 = .ok (.astore 5, 2) := by decide +kernel
theorem dc_H_init_96 : decode cd_H_init 96 = .ok (.aload 5, 2) := by decide +kernel
theorem dc_H_init_98 : decode cd_H_init 98 = .ok (.iconst 1, 1) := by decide +kernel
theorem dc_H_init_99 : decode cd_H_init 99 = .ok (.putfield 39, 3) := by decide +kernel
theorem dc_H_init_102 : decode cd_H_init 102 = .ok (.aload 5, 2) := by decide +kernel
theorem dc_H_init_104 : decode cd_H_init 104 = .ok (.iconst 1, 1) := by decide +kernel
theorem dc_H_init_105 : decode cd_H_init 105 = .ok (.putfield 43, 3) := by decide +kernel
theorem dc_H_init_108 : decode cd_H_init 108 = .ok (.aload_n 0, 1) := by decide +kernel
theorem dc_H_init_109 : decode cd_H_init 109 = .ok (.iload 4, 2) := by decide +kernel
theorem dc_H_init_111 : decode cd_H_init 111 = .ok (.anewarray 47, 3) := by decide +kernel
theorem dc_H_init_114 : decode cd_H_init 114 = .ok (.putfield 49, 3) := by decide +kernel
theorem dc_H_init_117 : decode cd_H_init 117 = .ok (.iconst 0, 1) := by decide +kernel
theorem dc_H_init_118 : decode cd_H_init 118 = .ok (.istore 6, 2) := by decide +kernel
theorem dc_H_init_120 : decode cd_H_init 120 = .ok (.iload 6, 2) := by decide +kernel
theorem dc_H_init_122 : decode cd_H_init 122 = .ok (.iload 4, 2) := by decide +kernel
theorem dc_H_init_124 : decode cd_H_init 124 = .ok (.if_icmp .ge 27, 3) := by decide +kernel
theorem dc_H_init_127 : decode cd_H_init 127 = .ok (.aload_n 0, 1) := by decide +kernel
theorem dc_H_init_128 : decode cd_H_init 128 = .ok (.getfield 49, 3) := by decide +kernel
theorem dc_H_init_131 : decode cd_H_init 131 = .ok (.iload 6, 2) := by decide +kernel
theorem dc_H_init_133 : decode cd_H_init 133 = .ok (.new 47, 3) := by decide +kernel
theorem dc_H_init_136 : decode cd_H_init 136 = .ok (.dup, 1) := by decide +kernel
theorem dc_H_init_137 : decode cd_H_init 137 = .ok (.iload 6, 2) := by decide +kernel
theorem dc_H_init_139 : decode cd_H_init 139 = .ok (.aload 5, 2) := by decide +kernel
theorem dc_H_init_141 : decode cd_H_init 141 = .ok (.invokespecial 53, 3) := by decide +kernel
theorem dc_H_init_144 : decode cd_H_init 144 = .ok (.aastore, 1) := by decide +kernel
theorem dc_H_init_145 : decode cd_H_init 145 = .ok (.iinc 6 1, 3) := by decide +kernel
theorem dc_H_init_148 : decode cd_H_init 148 = .ok (.goto (-28), 3) := by decide +kernel
theorem dc_H_init_151 : decode cd_H_init 151 = .ok (.return_, 1) := by decide +kernel
theorem dc_H_call_0 : decode cd_H_call 0 = .ok (.aload_n 0, 1) := by decide +kernel
theorem dc_H_call_1 : decode cd_H_call 1 = .ok (.iload_n 1, 1) := by decide +kernel
theorem dc_H_call_2 : decode cd_H_call 2 = .ok (.invokevirtual 56, 3) := by decide +kernel
theorem dc_H_call_5 : decode cd_H_call 5 = .ok (.iload_n 2, 1) := by decide +kernel
theorem dc_H_call_6 : decode cd_H_call 6 = .ok (.invokestatic 60, 3) := by decide +kernel
theorem dc_H_call_9 : decode cd_H_call 9 = .ok (.aload_n 0, 1) := by decide +kernel
theorem dc_H_call_10 : decode cd_H_call 10 = .ok (.getfield 49, 3) := by decide +kernel
theorem dc_H_call_13 : decode cd_H_call 13 = .ok (.iload_n 1, 1) := by decide +kernel
theorem dc_H_call_14 : decode cd_H_call 14 = .ok (.aaload, 1) := by decide +kernel
theorem dc_H_call_15 : decode cd_H_call 15 = .ok (.astore 5, 2) := by decide +kernel
theorem dc_H_call_17 : decode cd_H_call 17 = .ok (.aload 5, 2) := by decide +kernel
theorem dc_H_call_19 : decode cd_H_call 19 = .ok (.getfield 63, 3) := by decide +kernel
theorem dc_H_call_22 : decode cd_H_call 22 = .ok (.iconst (-1), 1) := by decide +kernel
theorem dc_H_call_23 : decode cd_H_call 23 = .ok (.if_icmp .eq 13, 3) := by decide +kernel
theorem dc_H_call_26 : decode cd_H_call 26 = .ok (.new 66, 3) := by decide +kernel
theorem dc_H_call_29 : decode cd_H_call 29 = .ok (.dup, 1) := by decide +kernel
theorem dc_H_call_30 : decode cd_H_call 30 = .ok (.ldc 68, 2) := by decide +kernel
theorem dc_H_call_32 : decode cd_H_call 32 = .ok (.invokespecial 70, 3) := by decide +kernel
theorem dc_H_call_35 : decode cd_H_call 35 = .ok (.athrow, 1) := by decide +kernel
theorem dc_H_call_36 : decode cd_H_call 36 = .ok (.aload 5, 2) := by decide +kernel
theorem dc_H_call_38 : decode cd_H_call 38 = .ok (.iload_n 2, 1) := by decide +kernel
theorem dc_H_call_39 : decode cd_H_call 39 = .ok (.putfield 73, 3) := by decide +kernel
theorem dc_H_call_42 : decode cd_H_call 42 = .ok (.aload 5, 2) := by decide +kernel
theorem dc_H_call_44 : decode cd_H_call 44 = .ok (.iload_n 3, 1) := by decide +kernel
theorem dc_H_call_45 : decode cd_H_call 45 = .ok (.putfield 76, 3) := by decide +kernel
theorem dc_H_call_48 : decode cd_H_call 48 = .ok (.aload 5, 2) := by decide +kernel
theorem dc_H_call_50 : decode cd_H_call 50 = .ok (.iload 4, 2) := by decide +kernel
theorem dc_H_call_52 : decode cd_H_call 52 = .ok (.putfield 79, 3) := by decide +kernel
theorem dc_H_call_55 : decode cd_H_call 55 = .ok (.aload 5, 2) := by decide +kernel
theorem dc_H_call_57 : decode cd_H_call 57 = .ok (.iconst 0, 1) := by decide +kernel
theorem dc_H_call_58 : decode cd_H_call 58 = .ok (.putfield 63, 3) := by decide +kernel
theorem dc_H_call_61 : decode cd_H_call 61 = .ok (.return_, 1) := by decide +kernel
theorem dc_H_step_0 : decode cd_H_step 0 = .ok (.aload_n 0, 1) := by decide +kernel
theorem dc_H_step_1 : decode cd_H_step 1 = .ok (.iload_n 1, 1) := by decide +kernel
theorem dc_H_step_2 : decode cd_H_step 2 = .ok (.invokevirtual 56, 3) := by decide +kernel
theorem dc_H_step_5 : decode cd_H_step 5 = .ok (.aload_n 0, 1) := by decide +kernel
theorem dc_H_step_6 : decode cd_H_step 6 = .ok (.aload_n 0, 1) := by decide +kernel
theorem dc_H_step_7 : decode cd_H_step 7 = .ok (.getfield 49, 3) := by decide +kernel
theorem dc_H_step_10 : decode cd_H_step 10 = .ok (.iload_n 1, 1) := by decide +kernel
theorem dc_H_step_11 : decode cd_H_step 11 = .ok (.aaload, 1) := by decide +kernel
theorem dc_H_step_12 : decode cd_H_step 12 = .ok (.invokevirtual 82, 3) := by decide +kernel
theorem dc_H_step_15 : decode cd_H_step 15 = .ok (.ireturn, 1) := by decide +kernel
theorem dc_H_run_0 : decode cd_H_run 0 = .ok (.iload_n 2, 1) := by decide +kernel
theorem dc_H_run_1 : decode cd_H_run 1 = .ok (.iconst 1, 1) := by decide +kernel
theorem dc_H_run_2 : decode cd_H_run 2 = .ok (.if_icmp .lt 10, 3) := by decide +kernel
theorem dc_H_run_5 : decode cd_H_run 5 = .ok (.iload_n 2, 1) := by decide +kernel
theorem dc_H_run_6 : decode cd_H_run 6 = .ok (.sipush 1000, 3) := by decide +kernel
theorem dc_H_run_9 : decode cd_H_run 9 = .ok (.if_icmp .le 13, 3) := by decide +kernel
theorem dc_H_run_12 : decode cd_H_run 12 = .ok (.new 86, 3) := by decide +kernel
theorem dc_H_run_15 : decode cd_H_run 15 = .ok (.dup, 1) := by decide +kernel
theorem dc_H_run_16 : decode cd_H_run 16 = .ok (.ldc 88, 2) := by decide +kernel
theorem dc_H_run_18 : decode cd_H_run 18 = .ok (.invokespecial 90, 3) := by decide +kernel
theorem dc_H_run_21 : decode cd_H_run 21 = .ok (.athrow, 1) := by decide +kernel
theorem dc_H_run_22 : decode cd_H_run 22 = .ok (.iload_n 1, 1) := by decide +kernel
theorem dc_H_run_23 : decode cd_H_run 23 = .ok (.istore_n 3, 1) := by decide +kernel
theorem dc_H_run_24 : decode cd_H_run 24 = .ok (.iconst 0, 1) := by decide +kernel
theorem dc_H_run_25 : decode cd_H_run 25 = .ok (.istore 4, 2) := by decide +kernel
theorem dc_H_run_27 : decode cd_H_run 27 = .ok (.iconst 0, 1) := by decide +kernel
theorem dc_H_run_28 : decode cd_H_run 28 = .ok (.istore 5, 2) := by decide +kernel
theorem dc_H_run_30 : decode cd_H_run 30 = .ok (.iload 5, 2) := by decide +kernel
theorem dc_H_run_32 : decode cd_H_run 32 = .ok (.iload_n 2, 1) := by decide +kernel
theorem dc_H_run_33 : decode cd_H_run 33 = .ok (.if_icmp .ge 44, 3) := by decide +kernel
theorem dc_H_run_36 : decode cd_H_run 36 = .ok (.iload_n 3, 1) := by decide +kernel
theorem dc_H_run_37 : decode cd_H_run 37 = .ok (.ldc 91, 2) := by decide +kernel
theorem dc_H_run_39 : decode cd_H_run 39 = .ok (.imul, 1) := by decide +kernel
theorem dc_H_run_40 : decode cd_H_run 40 = .ok (.sipush 12345, 3) := by decide +kernel
theorem dc_H_run_43 : decode cd_H_run 43 = .ok (.iadd, 1) := by decide +kernel
theorem dc_H_run_44 : decode cd_H_run 44 = .ok (.istore_n 3, 1) := by decide +kernel
theorem dc_H_run_45 : decode cd_H_run 45 = .ok (.aload_n 0, 1) := by decide +kernel
theorem dc_H_run_46 : decode cd_H_run 46 = .ok (.aload_n 0, 1) := by decide +kernel
theorem dc_H_run_47 : decode cd_H_run 47 = .ok (.getfield 49, 3) := by decide +kernel
theorem dc_H_run_50 : decode cd_H_run 50 = .ok (.iload_n 3, 1) := by decide +kernel
theorem dc_H_run_51 : decode cd_H_run 51 = .ok (.bipush 16, 2) := by decide +kernel
theorem dc_H_run_53 : decode cd_H_run 53 = .ok (.iushr, 1) := by decide +kernel
theorem dc_H_run_54 : decode cd_H_run 54 = .ok (.aload_n 0, 1) := by decide +kernel
theorem dc_H_run_55 : decode cd_H_run 55 = .ok (.getfield 49, 3) := by decide +kernel
theorem dc_H_run_58 : decode cd_H_run 58 = .ok (.arraylength, 1) := by decide +kernel
theorem dc_H_run_59 : decode cd_H_run 59 = .ok (.irem, 1) := by decide +kernel
theorem dc_H_run_60 : decode cd_H_run 60 = .ok (.aaload, 1) := by decide +kernel
theorem dc_H_run_61 : decode cd_H_run 61 = .ok (.invokevirtual 82, 3) := by decide +kernel
theorem dc_H_run_64 : decode cd_H_run 64 = .ok (.iconst 1, 1) := by decide +kernel
theorem dc_H_run_65 : decode cd_H_run 65 = .ok (.if_icmp .ne 6, 3) := by decide +kernel
theorem dc_H_run_68 : decode cd_H_run 68 = .ok (.iinc 4 1, 3) := by decide +kernel
theorem dc_H_run_71 : decode cd_H_run 71 = .ok (.iinc 5 1, 3) := by decide +kernel
theorem dc_H_run_74 : decode cd_H_run 74 = .ok (.goto (-44), 3) := by decide +kernel
theorem dc_H_run_77 : decode cd_H_run 77 = .ok (.iload 4, 2) := by decide +kernel
theorem dc_H_run_79 : decode cd_H_run 79 = .ok (.ireturn, 1) := by decide +kernel
theorem dc_H_done_0 : decode cd_H_done 0 = .ok (.aload_n 0, 1) := by decide +kernel
theorem dc_H_done_1 : decode cd_H_done 1 = .ok (.iload_n 1, 1) := by decide +kernel
theorem dc_H_done_2 : decode cd_H_done 2 = .ok (.invokevirtual 56, 3) := by decide +kernel
theorem dc_H_done_5 : decode cd_H_done 5 = .ok (.aload_n 0, 1) := by decide +kernel
theorem dc_H_done_6 : decode cd_H_done 6 = .ok (.getfield 49, 3) := by decide +kernel
theorem dc_H_done_9 : decode cd_H_done 9 = .ok (.iload_n 1, 1) := by decide +kernel
theorem dc_H_done_10 : decode cd_H_done 10 = .ok (.aaload, 1) := by decide +kernel
theorem dc_H_done_11 : decode cd_H_done 11 = .ok (.getfield 92, 3) := by decide +kernel
theorem dc_H_done_14 : decode cd_H_done 14 = .ok (.ireturn, 1) := by decide +kernel
theorem dc_H_answer_0 : decode cd_H_answer 0 = .ok (.aload_n 0, 1) := by decide +kernel
theorem dc_H_answer_1 : decode cd_H_answer 1 = .ok (.iload_n 1, 1) := by decide +kernel
theorem dc_H_answer_2 : decode cd_H_answer 2 = .ok (.invokevirtual 56, 3) := by decide +kernel
theorem dc_H_answer_5 : decode cd_H_answer 5 = .ok (.aload_n 0, 1) := by decide +kernel
theorem dc_H_answer_6 : decode cd_H_answer 6 = .ok (.getfield 49, 3) := by decide +kernel
theorem dc_H_answer_9 : decode cd_H_answer 9 = .ok (.iload_n 1, 1) := by decide +kernel
theorem dc_H_answer_10 : decode cd_H_answer 10 = .ok (.aaload, 1) := by decide +kernel
theorem dc_H_answer_11 : decode cd_H_answer 11 = .ok (.getfield 92, 3) := by decide +kernel
theorem dc_H_answer_14 : decode cd_H_answer 14 = .ok (.ifCond .ne 13, 3) := by decide +kernel
theorem dc_H_answer_17 : decode cd_H_answer 17 = .ok (.new 66, 3) := by decide +kernel
theorem dc_H_answer_20 : decode cd_H_answer 20 = .ok (.dup, 1) := by decide +kernel
theorem dc_H_answer_21 : decode cd_H_answer 21 = .ok (.ldc 95, 2) := by decide +kernel
theorem dc_H_answer_23 : decode cd_H_answer 23 = .ok (.invokespecial 70, 3) := by decide +kernel
theorem dc_H_answer_26 : decode cd_H_answer 26 = .ok (.athrow, 1) := by decide +kernel
theorem dc_H_answer_27 : decode cd_H_answer 27 = .ok (.aload_n 0, 1) := by decide +kernel
theorem dc_H_answer_28 : decode cd_H_answer 28 = .ok (.getfield 49, 3) := by decide +kernel
theorem dc_H_answer_31 : decode cd_H_answer 31 = .ok (.iload_n 1, 1) := by decide +kernel
theorem dc_H_answer_32 : decode cd_H_answer 32 = .ok (.aaload, 1) := by decide +kernel
theorem dc_H_answer_33 : decode cd_H_answer 33 = .ok (.getfield 97, 3) := by decide +kernel
theorem dc_H_answer_36 : decode cd_H_answer 36 = .ok (.ireturn, 1) := by decide +kernel
theorem dc_H_placeOf_0 : decode cd_H_placeOf 0 = .ok (.aload_n 0, 1) := by decide +kernel
theorem dc_H_placeOf_1 : decode cd_H_placeOf 1 = .ok (.iload_n 1, 1) := by decide +kernel
theorem dc_H_placeOf_2 : decode cd_H_placeOf 2 = .ok (.invokevirtual 56, 3) := by decide +kernel
theorem dc_H_placeOf_5 : decode cd_H_placeOf 5 = .ok (.aload_n 0, 1) := by decide +kernel
theorem dc_H_placeOf_6 : decode cd_H_placeOf 6 = .ok (.getfield 49, 3) := by decide +kernel
theorem dc_H_placeOf_9 : decode cd_H_placeOf 9 = .ok (.iload_n 1, 1) := by decide +kernel
theorem dc_H_placeOf_10 : decode cd_H_placeOf 10 = .ok (.aaload, 1) := by decide +kernel
theorem dc_H_placeOf_11 : decode cd_H_placeOf 11 = .ok (.getfield 100, 3) := by decide +kernel
theorem dc_H_placeOf_14 : decode cd_H_placeOf 14 = .ok (.ireturn, 1) := by decide +kernel
theorem dc_H_end_0 : decode cd_H_end 0 = .ok (.iconst 1, 1) := by decide +kernel
theorem dc_H_end_1 : decode cd_H_end 1 = .ok (.istore_n 1, 1) := by decide +kernel
theorem dc_H_end_2 : decode cd_H_end 2 = .ok (.aload_n 0, 1) := by decide +kernel
theorem dc_H_end_3 : decode cd_H_end 3 = .ok (.getfield 34, 3) := by decide +kernel
theorem dc_H_end_6 : decode cd_H_end 6 = .ok (.astore_n 2, 1) := by decide +kernel
theorem dc_H_end_7 : decode cd_H_end 7 = .ok (.aload_n 2, 1) := by decide +kernel
theorem dc_H_end_8 : decode cd_H_end 8 = .ok (.arraylength, 1) := by decide +kernel
theorem dc_H_end_9 : decode cd_H_end 9 = .ok (.istore_n 3, 1) := by decide +kernel
theorem dc_H_end_10 : decode cd_H_end 10 = .ok (.iconst 0, 1) := by decide +kernel
theorem dc_H_end_11 : decode cd_H_end 11 = .ok (.istore 4, 2) := by decide +kernel
theorem dc_H_end_13 : decode cd_H_end 13 = .ok (.iload 4, 2) := by decide +kernel
theorem dc_H_end_15 : decode cd_H_end 15 = .ok (.iload_n 3, 1) := by decide +kernel
theorem dc_H_end_16 : decode cd_H_end 16 = .ok (.if_icmp .ge 33, 3) := by decide +kernel
theorem dc_H_end_19 : decode cd_H_end 19 = .ok (.aload_n 2, 1) := by decide +kernel
theorem dc_H_end_20 : decode cd_H_end 20 = .ok (.iload 4, 2) := by decide +kernel
theorem dc_H_end_22 : decode cd_H_end 22 = .ok (.aaload, 1) := by decide +kernel
theorem dc_H_end_23 : decode cd_H_end 23 = .ok (.astore 5, 2) := by decide +kernel
theorem dc_H_end_25 : decode cd_H_end 25 = .ok (.aload 5, 2) := by decide +kernel
theorem dc_H_end_27 : decode cd_H_end 27 = .ok (.invokevirtual 103, 3) := by decide +kernel
theorem dc_H_end_30 : decode cd_H_end 30 = .ok (.ifCond .eq 13, 3) := by decide +kernel
theorem dc_H_end_33 : decode cd_H_end 33 = .ok (.iload_n 1, 1) := by decide +kernel
theorem dc_H_end_34 : decode cd_H_end 34 = .ok (.aload 5, 2) := by decide +kernel
theorem dc_H_end_36 : decode cd_H_end 36 = .ok (.getfield 43, 3) := by decide +kernel
theorem dc_H_end_39 : decode cd_H_end 39 = .ok (.invokestatic 15, 3) := by decide +kernel
theorem dc_H_end_42 : decode cd_H_end 42 = .ok (.istore_n 1, 1) := by decide +kernel
theorem dc_H_end_43 : decode cd_H_end 43 = .ok (.iinc 4 1, 3) := by decide +kernel
theorem dc_H_end_46 : decode cd_H_end 46 = .ok (.goto (-33), 3) := by decide +kernel
theorem dc_H_end_49 : decode cd_H_end 49 = .ok (.iload_n 1, 1) := by decide +kernel
theorem dc_H_end_50 : decode cd_H_end 50 = .ok (.ireturn, 1) := by decide +kernel
theorem dc_H_oldest_0 : decode cd_H_oldest 0 = .ok (.aload_n 0, 1) := by decide +kernel
theorem dc_H_oldest_1 : decode cd_H_oldest 1 = .ok (.invokevirtual 107, 3) := by decide +kernel
theorem dc_H_oldest_4 : decode cd_H_oldest 4 = .ok (.istore_n 1, 1) := by decide +kernel
theorem dc_H_oldest_5 : decode cd_H_oldest 5 = .ok (.aload_n 0, 1) := by decide +kernel
theorem dc_H_oldest_6 : decode cd_H_oldest 6 = .ok (.getfield 34, 3) := by decide +kernel
theorem dc_H_oldest_9 : decode cd_H_oldest 9 = .ok (.astore_n 2, 1) := by decide +kernel
theorem dc_H_oldest_10 : decode cd_H_oldest 10 = .ok (.aload_n 2, 1) := by decide +kernel
theorem dc_H_oldest_11 : decode cd_H_oldest 11 = .ok (.arraylength, 1) := by decide +kernel
theorem dc_H_oldest_12 : decode cd_H_oldest 12 = .ok (.istore_n 3, 1) := by decide +kernel
theorem dc_H_oldest_13 : decode cd_H_oldest 13 = .ok (.iconst 0, 1) := by decide +kernel
theorem dc_H_oldest_14 : decode cd_H_oldest 14 = .ok (.istore 4, 2) := by decide +kernel
theorem dc_H_oldest_16 : decode cd_H_oldest 16 = .ok (.iload 4, 2) := by decide +kernel
theorem dc_H_oldest_18 : decode cd_H_oldest 18 = .ok (.iload_n 3, 1) := by decide +kernel
theorem dc_H_oldest_19 : decode cd_H_oldest 19 = .ok (.if_icmp .ge 33, 3) := by decide +kernel
theorem dc_H_oldest_22 : decode cd_H_oldest 22 = .ok (.aload_n 2, 1) := by decide +kernel
theorem dc_H_oldest_23 : decode cd_H_oldest 23 = .ok (.iload 4, 2) := by decide +kernel
theorem dc_H_oldest_25 : decode cd_H_oldest 25 = .ok (.aaload, 1) := by decide +kernel
theorem dc_H_oldest_26 : decode cd_H_oldest 26 = .ok (.astore 5, 2) := by decide +kernel
theorem dc_H_oldest_28 : decode cd_H_oldest 28 = .ok (.aload 5, 2) := by decide +kernel
theorem dc_H_oldest_30 : decode cd_H_oldest 30 = .ok (.invokevirtual 103, 3) := by decide +kernel
theorem dc_H_oldest_33 : decode cd_H_oldest 33 = .ok (.ifCond .eq 13, 3) := by decide +kernel
theorem dc_H_oldest_36 : decode cd_H_oldest 36 = .ok (.iload_n 1, 1) := by decide +kernel
theorem dc_H_oldest_37 : decode cd_H_oldest 37 = .ok (.aload 5, 2) := by decide +kernel
theorem dc_H_oldest_39 : decode cd_H_oldest 39 = .ok (.getfield 43, 3) := by decide +kernel
theorem dc_H_oldest_42 : decode cd_H_oldest 42 = .ok (.invokestatic 9, 3) := by decide +kernel
theorem dc_H_oldest_45 : decode cd_H_oldest 45 = .ok (.istore_n 1, 1) := by decide +kernel
theorem dc_H_oldest_46 : decode cd_H_oldest 46 = .ok (.iinc 4 1, 3) := by decide +kernel
theorem dc_H_oldest_49 : decode cd_H_oldest 49 = .ok (.goto (-33), 3) := by decide +kernel
theorem dc_H_oldest_52 : decode cd_H_oldest 52 = .ok (.iload_n 1, 1) := by decide +kernel
theorem dc_H_oldest_53 : decode cd_H_oldest 53 = .ok (.ireturn, 1) := by decide +kernel
theorem dc_H_node_0 : decode cd_H_node 0 = .ok (.aload_n 0, 1) := by decide +kernel
theorem dc_H_node_1 : decode cd_H_node 1 = .ok (.iload_n 1, 1) := by decide +kernel
theorem dc_H_node_2 : decode cd_H_node 2 = .ok (.invokevirtual 111, 3) := by decide +kernel
theorem dc_H_node_5 : decode cd_H_node 5 = .ok (.astore_n 3, 1) := by decide +kernel
theorem dc_H_node_6 : decode cd_H_node 6 = .ok (.aload_n 3, 1) := by decide +kernel
theorem dc_H_node_7 : decode cd_H_node 7 = .ok (.ifnonnull 13, 3) := by decide +kernel
theorem dc_H_node_10 : decode cd_H_node 10 = .ok (.new 115, 3) := by decide +kernel
theorem dc_H_node_13 : decode cd_H_node 13 = .ok (.dup, 1) := by decide +kernel
theorem dc_H_node_14 : decode cd_H_node 14 = .ok (.ldc 117, 2) := by decide +kernel
theorem dc_H_node_16 : decode cd_H_node 16 = .ok (.invokespecial 119, 3) := by decide +kernel
theorem dc_H_node_19 : decode cd_H_node 19 = .ok (.athrow, 1) := by decide +kernel
theorem dc_H_node_20 : decode cd_H_node 20 = .ok (.iload_n 2, 1) := by decide +kernel
theorem dc_H_node_21 : decode cd_H_node 21 = .ok (.ifCond .lt 8, 3) := by decide +kernel
theorem dc_H_node_24 : decode cd_H_node 24 = .ok (.iload_n 2, 1) := by decide +kernel
theorem dc_H_node_25 : decode cd_H_node 25 = .ok (.iconst 3, 1) := by decide +kernel
theorem dc_H_node_26 : decode cd_H_node 26 = .ok (.if_icmp .le 13, 3) := by decide +kernel
theorem dc_H_node_29 : decode cd_H_node 29 = .ok (.new 86, 3) := by decide +kernel
theorem dc_H_node_32 : decode cd_H_node 32 = .ok (.dup, 1) := by decide +kernel
theorem dc_H_node_33 : decode cd_H_node 33 = .ok (.ldc 120, 2) := by decide +kernel
theorem dc_H_node_35 : decode cd_H_node 35 = .ok (.invokespecial 90, 3) := by decide +kernel
theorem dc_H_node_38 : decode cd_H_node 38 = .ok (.athrow, 1) := by decide +kernel
theorem dc_H_node_39 : decode cd_H_node 39 = .ok (.aload_n 3, 1) := by decide +kernel
theorem dc_H_node_40 : decode cd_H_node 40 = .ok (.iload_n 2, 1) := by decide +kernel
theorem dc_H_node_41 : decode cd_H_node 41 = .ok (.invokevirtual 122, 3) := by decide +kernel
theorem dc_H_node_44 : decode cd_H_node 44 = .ok (.ireturn, 1) := by decide +kernel
theorem dc_H_stage_0 : decode cd_H_stage 0 = .ok (.aload_n 0, 1) := by decide +kernel
theorem dc_H_stage_1 : decode cd_H_stage 1 = .ok (.iload_n 1, 1) := by decide +kernel
theorem dc_H_stage_2 : decode cd_H_stage 2 = .ok (.invokevirtual 56, 3) := by decide +kernel
theorem dc_H_stage_5 : decode cd_H_stage 5 = .ok (.aload_n 0, 1) := by decide +kernel
theorem dc_H_stage_6 : decode cd_H_stage 6 = .ok (.getfield 49, 3) := by decide +kernel
theorem dc_H_stage_9 : decode cd_H_stage 9 = .ok (.iload_n 1, 1) := by decide +kernel
theorem dc_H_stage_10 : decode cd_H_stage 10 = .ok (.aaload, 1) := by decide +kernel
theorem dc_H_stage_11 : decode cd_H_stage 11 = .ok (.getfield 63, 3) := by decide +kernel
theorem dc_H_stage_14 : decode cd_H_stage 14 = .ok (.ireturn, 1) := by decide +kernel
theorem dc_H_head_0 : decode cd_H_head 0 = .ok (.aload_n 0, 1) := by decide +kernel
theorem dc_H_head_1 : decode cd_H_head 1 = .ok (.iload_n 1, 1) := by decide +kernel
theorem dc_H_head_2 : decode cd_H_head 2 = .ok (.invokevirtual 56, 3) := by decide +kernel
theorem dc_H_head_5 : decode cd_H_head 5 = .ok (.aload_n 0, 1) := by decide +kernel
theorem dc_H_head_6 : decode cd_H_head 6 = .ok (.getfield 49, 3) := by decide +kernel
theorem dc_H_head_9 : decode cd_H_head 9 = .ok (.iload_n 1, 1) := by decide +kernel
theorem dc_H_head_10 : decode cd_H_head 10 = .ok (.aaload, 1) := by decide +kernel
theorem dc_H_head_11 : decode cd_H_head 11 = .ok (.getfield 126, 3) := by decide +kernel
theorem dc_H_head_14 : decode cd_H_head 14 = .ok (.getfield 43, 3) := by decide +kernel
theorem dc_H_head_17 : decode cd_H_head 17 = .ok (.ireturn, 1) := by decide +kernel
theorem dc_H_used_0 : decode cd_H_used 0 = .ok (.iconst 0, 1) := by decide +kernel
theorem dc_H_used_1 : decode cd_H_used 1 = .ok (.istore_n 1, 1) := by decide +kernel
theorem dc_H_used_2 : decode cd_H_used 2 = .ok (.aload_n 0, 1) := by decide +kernel
theorem dc_H_used_3 : decode cd_H_used 3 = .ok (.getfield 34, 3) := by decide +kernel
theorem dc_H_used_6 : decode cd_H_used 6 = .ok (.astore_n 2, 1) := by decide +kernel
theorem dc_H_used_7 : decode cd_H_used 7 = .ok (.aload_n 2, 1) := by decide +kernel
theorem dc_H_used_8 : decode cd_H_used 8 = .ok (.arraylength, 1) := by decide +kernel
theorem dc_H_used_9 : decode cd_H_used 9 = .ok (.istore_n 3, 1) := by decide +kernel
theorem dc_H_used_10 : decode cd_H_used 10 = .ok (.iconst 0, 1) := by decide +kernel
theorem dc_H_used_11 : decode cd_H_used 11 = .ok (.istore 4, 2) := by decide +kernel
theorem dc_H_used_13 : decode cd_H_used 13 = .ok (.iload 4, 2) := by decide +kernel
theorem dc_H_used_15 : decode cd_H_used 15 = .ok (.iload_n 3, 1) := by decide +kernel
theorem dc_H_used_16 : decode cd_H_used 16 = .ok (.if_icmp .ge 26, 3) := by decide +kernel
theorem dc_H_used_19 : decode cd_H_used 19 = .ok (.aload_n 2, 1) := by decide +kernel
theorem dc_H_used_20 : decode cd_H_used 20 = .ok (.iload 4, 2) := by decide +kernel
theorem dc_H_used_22 : decode cd_H_used 22 = .ok (.aaload, 1) := by decide +kernel
theorem dc_H_used_23 : decode cd_H_used 23 = .ok (.astore 5, 2) := by decide +kernel
theorem dc_H_used_25 : decode cd_H_used 25 = .ok (.aload 5, 2) := by decide +kernel
theorem dc_H_used_27 : decode cd_H_used 27 = .ok (.getfield 39, 3) := by decide +kernel
theorem dc_H_used_30 : decode cd_H_used 30 = .ok (.ifCond .eq 6, 3) := by decide +kernel
theorem dc_H_used_33 : decode cd_H_used 33 = .ok (.iinc 1 1, 3) := by decide +kernel
theorem dc_H_used_36 : decode cd_H_used 36 = .ok (.iinc 4 1, 3) := by decide +kernel
theorem dc_H_used_39 : decode cd_H_used 39 = .ok (.goto (-26), 3) := by decide +kernel
theorem dc_H_used_42 : decode cd_H_used 42 = .ok (.iload_n 1, 1) := by decide +kernel
theorem dc_H_used_43 : decode cd_H_used 43 = .ok (.ireturn, 1) := by decide +kernel
theorem dc_H_cut_0 : decode cd_H_cut 0 = .ok (.aload_n 0, 1) := by decide +kernel
theorem dc_H_cut_1 : decode cd_H_cut 1 = .ok (.aload_n 0, 1) := by decide +kernel
theorem dc_H_cut_2 : decode cd_H_cut 2 = .ok (.invokevirtual 130, 3) := by decide +kernel
theorem dc_H_cut_5 : decode cd_H_cut 5 = .ok (.invokevirtual 134, 3) := by decide +kernel
theorem dc_H_cut_8 : decode cd_H_cut 8 = .ok (.aload_n 0, 1) := by decide +kernel
theorem dc_H_cut_9 : decode cd_H_cut 9 = .ok (.aload_n 0, 1) := by decide +kernel
theorem dc_H_cut_10 : decode cd_H_cut 10 = .ok (.invokevirtual 138, 3) := by decide +kernel
theorem dc_H_cut_13 : decode cd_H_cut 13 = .ok (.invokevirtual 141, 3) := by decide +kernel
theorem dc_H_cut_16 : decode cd_H_cut 16 = .ok (.ireturn, 1) := by decide +kernel
theorem dc_H_peek_0 : decode cd_H_peek 0 = .ok (.iload_n 1, 1) := by decide +kernel
theorem dc_H_peek_1 : decode cd_H_peek 1 = .ok (.invokestatic 60, 3) := by decide +kernel
theorem dc_H_peek_4 : decode cd_H_peek 4 = .ok (.aload_n 0, 1) := by decide +kernel
theorem dc_H_peek_5 : decode cd_H_peek 5 = .ok (.getfield 26, 3) := by decide +kernel
theorem dc_H_peek_8 : decode cd_H_peek 8 = .ok (.aload_n 0, 1) := by decide +kernel
theorem dc_H_peek_9 : decode cd_H_peek 9 = .ok (.getfield 22, 3) := by decide +kernel
theorem dc_H_peek_12 : decode cd_H_peek 12 = .ok (.invokevirtual 144, 3) := by decide +kernel
theorem dc_H_peek_15 : decode cd_H_peek 15 = .ok (.aload_n 0, 1) := by decide +kernel
theorem dc_H_peek_16 : decode cd_H_peek 16 = .ok (.getfield 26, 3) := by decide +kernel
theorem dc_H_peek_19 : decode cd_H_peek 19 = .ok (.iload_n 1, 1) := by decide +kernel
theorem dc_H_peek_20 : decode cd_H_peek 20 = .ok (.iload_n 2, 1) := by decide +kernel
theorem dc_H_peek_21 : decode cd_H_peek 21 = .ok (.iload_n 3, 1) := by decide +kernel
theorem dc_H_peek_22 : decode cd_H_peek 22 = .ok (.invokevirtual 150, 3) := by decide +kernel
theorem dc_H_peek_25 : decode cd_H_peek 25 = .ok (.ireturn, 1) := by decide +kernel
theorem dc_H_plain_0 : decode cd_H_plain 0 = .ok (.iload_n 1, 1) := by decide +kernel
theorem dc_H_plain_1 : decode cd_H_plain 1 = .ok (.invokestatic 60, 3) := by decide +kernel
theorem dc_H_plain_4 : decode cd_H_plain 4 = .ok (.aload_n 0, 1) := by decide +kernel
theorem dc_H_plain_5 : decode cd_H_plain 5 = .ok (.getfield 29, 3) := by decide +kernel
theorem dc_H_plain_8 : decode cd_H_plain 8 = .ok (.iload_n 1, 1) := by decide +kernel
theorem dc_H_plain_9 : decode cd_H_plain 9 = .ok (.iload_n 2, 1) := by decide +kernel
theorem dc_H_plain_10 : decode cd_H_plain 10 = .ok (.iload_n 3, 1) := by decide +kernel
theorem dc_H_plain_11 : decode cd_H_plain 11 = .ok (.invokevirtual 150, 3) := by decide +kernel
theorem dc_H_plain_14 : decode cd_H_plain 14 = .ok (.ireturn, 1) := by decide +kernel
theorem dc_H_newPlain_0 : decode cd_H_newPlain 0 = .ok (.iload_n 0, 1) := by decide +kernel
theorem dc_H_newPlain_1 : decode cd_H_newPlain 1 = .ok (.tableswitch 51 0 2 #[27, 35, 43], 27) := by decide +kernel
theorem dc_H_newPlain_28 : decode cd_H_newPlain 28 = .ok (.new 154, 3) := by decide +kernel
theorem dc_H_newPlain_31 : decode cd_H_newPlain 31 = .ok (.dup, 1) := by decide +kernel
theorem dc_H_newPlain_32 : decode cd_H_newPlain 32 = .ok (.invokespecial 156, 3) := by decide +kernel
theorem dc_H_newPlain_35 : decode cd_H_newPlain 35 = .ok (.areturn, 1) := by decide +kernel
theorem dc_H_newPlain_36 : decode cd_H_newPlain 36 = .ok (.new 157, 3) := by decide +kernel
theorem dc_H_newPlain_39 : decode cd_H_newPlain 39 = .ok (.dup, 1) := by decide +kernel
theorem dc_H_newPlain_40 : decode cd_H_newPlain 40 = .ok (.invokespecial 159, 3) := by decide +kernel
theorem dc_H_newPlain_43 : decode cd_H_newPlain 43 = .ok (.areturn, 1) := by decide +kernel
theorem dc_H_newPlain_44 : decode cd_H_newPlain 44 = .ok (.new 160, 3) := by decide +kernel
theorem dc_H_newPlain_47 : decode cd_H_newPlain 47 = .ok (.dup, 1) := by decide +kernel
theorem dc_H_newPlain_48 : decode cd_H_newPlain 48 = .ok (.invokespecial 162, 3) := by decide +kernel
theorem dc_H_newPlain_51 : decode cd_H_newPlain 51 = .ok (.areturn, 1) := by decide +kernel
theorem dc_H_newPlain_52 : decode cd_H_newPlain 52 = .ok (.new 163, 3) := by decide +kernel
theorem dc_H_newPlain_55 : decode cd_H_newPlain 55 = .ok (.dup, 1) := by decide +kernel
theorem dc_H_newPlain_56 : decode cd_H_newPlain 56 = .ok (.invokespecial 165, 3) := by decide +kernel
theorem dc_H_newPlain_59 : decode cd_H_newPlain 59 = .ok (.areturn, 1) := by decide +kernel
theorem dc_H_checkProcess_0 : decode cd_H_checkProcess 0 = .ok (.iload_n 1, 1) := by decide +kernel
theorem dc_H_checkProcess_1 : decode cd_H_checkProcess 1 = .ok (.ifCond .lt 12, 3) := by decide +kernel
theorem dc_H_checkProcess_4 : decode cd_H_checkProcess 4 = .ok (.iload_n 1, 1) := by decide +kernel
theorem dc_H_checkProcess_5 : decode cd_H_checkProcess 5 = .ok (.aload_n 0, 1) := by decide +kernel
theorem dc_H_checkProcess_6 : decode cd_H_checkProcess 6 = .ok (.getfield 49, 3) := by decide +kernel
theorem dc_H_checkProcess_9 : decode cd_H_checkProcess 9 = .ok (.arraylength, 1) := by decide +kernel
theorem dc_H_checkProcess_10 : decode cd_H_checkProcess 10 = .ok (.if_icmp .lt 13, 3) := by decide +kernel
theorem dc_H_checkProcess_13 : decode cd_H_checkProcess 13 = .ok (.new 166, 3) := by decide +kernel
theorem dc_H_checkProcess_16 : decode cd_H_checkProcess 16 = .ok (.dup, 1) := by decide +kernel
theorem dc_H_checkProcess_17 : decode cd_H_checkProcess 17 = .ok (.ldc 168, 2) := by decide +kernel
theorem dc_H_checkProcess_19 : decode cd_H_checkProcess 19 = .ok (.invokespecial 170, 3) := by decide +kernel
theorem dc_H_checkProcess_22 : decode cd_H_checkProcess 22 = .ok (.athrow, 1) := by decide +kernel
theorem dc_H_checkProcess_23 : decode cd_H_checkProcess 23 = .ok (.return_, 1) := by decide +kernel
theorem dc_H_checkOperation_0 : decode cd_H_checkOperation 0 = .ok (.iload_n 0, 1) := by decide +kernel
theorem dc_H_checkOperation_1 : decode cd_H_checkOperation 1 = .ok (.ifCond .lt 8, 3) := by decide +kernel
theorem dc_H_checkOperation_4 : decode cd_H_checkOperation 4 = .ok (.iload_n 0, 1) := by decide +kernel
theorem dc_H_checkOperation_5 : decode cd_H_checkOperation 5 = .ok (.iconst 2, 1) := by decide +kernel
theorem dc_H_checkOperation_6 : decode cd_H_checkOperation 6 = .ok (.if_icmp .le 13, 3) := by decide +kernel
theorem dc_H_checkOperation_9 : decode cd_H_checkOperation 9 = .ok (.new 86, 3) := by decide +kernel
theorem dc_H_checkOperation_12 : decode cd_H_checkOperation 12 = .ok (.dup, 1) := by decide +kernel
theorem dc_H_checkOperation_13 : decode cd_H_checkOperation 13 = .ok (.ldc 171, 2) := by decide +kernel
theorem dc_H_checkOperation_15 : decode cd_H_checkOperation 15 = .ok (.invokespecial 90, 3) := by decide +kernel
theorem dc_H_checkOperation_18 : decode cd_H_checkOperation 18 = .ok (.athrow, 1) := by decide +kernel
theorem dc_H_checkOperation_19 : decode cd_H_checkOperation 19 = .ok (.return_, 1) := by decide +kernel
theorem dc_H_advance_0 : decode cd_H_advance 0 = .ok (.aload_n 1, 1) := by decide +kernel
theorem dc_H_advance_1 : decode cd_H_advance 1 = .ok (.getfield 63, 3) := by decide +kernel
theorem dc_H_advance_4 : decode cd_H_advance 4 = .ok (.tableswitch 116 0 7 #[48, 54, 61, 83, 90, 97, 104, 110], 48) := by decide +kernel
theorem dc_H_advance_52 : decode cd_H_advance 52 = .ok (.aload_n 0, 1) := by decide +kernel
theorem dc_H_advance_53 : decode cd_H_advance 53 = .ok (.aload_n 1, 1) := by decide +kernel
theorem dc_H_advance_54 : decode cd_H_advance 54 = .ok (.invokevirtual 173, 3) := by decide +kernel
theorem dc_H_advance_57 : decode cd_H_advance 57 = .ok (.ireturn, 1) := by decide +kernel
theorem dc_H_advance_58 : decode cd_H_advance 58 = .ok (.aload_n 0, 1) := by decide +kernel
theorem dc_H_advance_59 : decode cd_H_advance 59 = .ok (.aload_n 1, 1) := by decide +kernel
theorem dc_H_advance_60 : decode cd_H_advance 60 = .ok (.invokevirtual 176, 3) := by decide +kernel
theorem dc_H_advance_63 : decode cd_H_advance 63 = .ok (.iconst 0, 1) := by decide +kernel
theorem dc_H_advance_64 : decode cd_H_advance 64 = .ok (.ireturn, 1) := by decide +kernel
theorem dc_H_advance_65 : decode cd_H_advance 65 = .ok (.aload_n 1, 1) := by decide +kernel
theorem dc_H_advance_66 : decode cd_H_advance 66 = .ok (.aload_n 1, 1) := by decide +kernel
theorem dc_H_advance_67 : decode cd_H_advance 67 = .ok (.getfield 180, 3) := by decide +kernel
theorem dc_H_advance_70 : decode cd_H_advance 70 = .ok (.getfield 43, 3) := by decide +kernel
theorem dc_H_advance_73 : decode cd_H_advance 73 = .ok (.ifCond .le 8, 3) := by decide +kernel
theorem dc_H_advance_76 : decode cd_H_advance 76 = .ok (.bipush 7, 2) := by decide +kernel
theorem dc_H_advance_78 : decode cd_H_advance 78 = .ok (.goto 4, 3) := by decide +kernel
theorem dc_H_advance_81 : decode cd_H_advance 81 = .ok (.iconst 3, 1) := by decide +kernel
theorem dc_H_advance_82 : decode cd_H_advance 82 = .ok (.putfield 63, 3) := by decide +kernel
theorem dc_H_advance_85 : decode cd_H_advance 85 = .ok (.iconst 0, 1) := by decide +kernel
theorem dc_H_advance_86 : decode cd_H_advance 86 = .ok (.ireturn, 1) := by decide +kernel
theorem dc_H_advance_87 : decode cd_H_advance 87 = .ok (.aload_n 0, 1) := by decide +kernel
theorem dc_H_advance_88 : decode cd_H_advance 88 = .ok (.aload_n 1, 1) := by decide +kernel
theorem dc_H_advance_89 : decode cd_H_advance 89 = .ok (.invokevirtual 183, 3) := by decide +kernel
theorem dc_H_advance_92 : decode cd_H_advance 92 = .ok (.iconst 0, 1) := by decide +kernel
theorem dc_H_advance_93 : decode cd_H_advance 93 = .ok (.ireturn, 1) := by decide +kernel
theorem dc_H_advance_94 : decode cd_H_advance 94 = .ok (.aload_n 0, 1) := by decide +kernel
theorem dc_H_advance_95 : decode cd_H_advance 95 = .ok (.aload_n 1, 1) := by decide +kernel
theorem dc_H_advance_96 : decode cd_H_advance 96 = .ok (.invokevirtual 186, 3) := by decide +kernel
theorem dc_H_advance_99 : decode cd_H_advance 99 = .ok (.iconst 0, 1) := by decide +kernel
theorem dc_H_advance_100 : decode cd_H_advance 100 = .ok (.ireturn, 1) := by decide +kernel
theorem dc_H_advance_101 : decode cd_H_advance 101 = .ok (.aload_n 0, 1) := by decide +kernel
theorem dc_H_advance_102 : decode cd_H_advance 102 = .ok (.aload_n 1, 1) := by decide +kernel
theorem dc_H_advance_103 : decode cd_H_advance 103 = .ok (.invokevirtual 189, 3) := by decide +kernel
theorem dc_H_advance_106 : decode cd_H_advance 106 = .ok (.iconst 0, 1) := by decide +kernel
theorem dc_H_advance_107 : decode cd_H_advance 107 = .ok (.ireturn, 1) := by decide +kernel
theorem dc_H_advance_108 : decode cd_H_advance 108 = .ok (.aload_n 1, 1) := by decide +kernel
theorem dc_H_advance_109 : decode cd_H_advance 109 = .ok (.invokestatic 192, 3) := by decide +kernel
theorem dc_H_advance_112 : decode cd_H_advance 112 = .ok (.iconst 0, 1) := by decide +kernel
theorem dc_H_advance_113 : decode cd_H_advance 113 = .ok (.ireturn, 1) := by decide +kernel
theorem dc_H_advance_114 : decode cd_H_advance 114 = .ok (.aload_n 1, 1) := by decide +kernel
theorem dc_H_advance_115 : decode cd_H_advance 115 = .ok (.invokestatic 195, 3) := by decide +kernel
theorem dc_H_advance_118 : decode cd_H_advance 118 = .ok (.iconst 1, 1) := by decide +kernel
theorem dc_H_advance_119 : decode cd_H_advance 119 = .ok (.ireturn, 1) := by decide +kernel
theorem dc_H_advance_120 : decode cd_H_advance 120 = .ok (.iconst 2, 1) := by decide +kernel
theorem dc_H_advance_121 : decode cd_H_advance 121 = .ok (.ireturn, 1) := by decide +kernel
theorem dc_H_announce_0 : decode cd_H_announce 0 = .ok (.aload_n 0, 1) := by decide +kernel
theorem dc_H_announce_1 : decode cd_H_announce 1 = .ok (.invokevirtual 198, 3) := by decide +kernel
theorem dc_H_announce_4 : decode cd_H_announce 4 = .ok (.astore_n 2, 1) := by decide +kernel
theorem dc_H_announce_5 : decode cd_H_announce 5 = .ok (.aload_n 2, 1) := by decide +kernel
theorem dc_H_announce_6 : decode cd_H_announce 6 = .ok (.ifnonnull 5, 3) := by decide +kernel
theorem dc_H_announce_9 : decode cd_H_announce 9 = .ok (.iconst 3, 1) := by decide +kernel
theorem dc_H_announce_10 : decode cd_H_announce 10 = .ok (.ireturn, 1) := by decide +kernel
theorem dc_H_announce_11 : decode cd_H_announce 11 = .ok (.aload_n 2, 1) := by decide +kernel
theorem dc_H_announce_12 : decode cd_H_announce 12 = .ok (.aload_n 1, 1) := by decide +kernel
theorem dc_H_announce_13 : decode cd_H_announce 13 = .ok (.invokevirtual 201, 3) := by decide +kernel
theorem dc_H_announce_16 : decode cd_H_announce 16 = .ok (.aload_n 1, 1) := by decide +kernel
theorem dc_H_announce_17 : decode cd_H_announce 17 = .ok (.aload_n 2, 1) := by decide +kernel
theorem dc_H_announce_18 : decode cd_H_announce 18 = .ok (.putfield 180, 3) := by decide +kernel
theorem dc_H_announce_21 : decode cd_H_announce 21 = .ok (.aload_n 1, 1) := by decide +kernel
theorem dc_H_announce_22 : decode cd_H_announce 22 = .ok (.aload_n 2, 1) := by decide +kernel
theorem dc_H_announce_23 : decode cd_H_announce 23 = .ok (.putfield 204, 3) := by decide +kernel
theorem dc_H_announce_26 : decode cd_H_announce 26 = .ok (.aload_n 1, 1) := by decide +kernel
theorem dc_H_announce_27 : decode cd_H_announce 27 = .ok (.aload_n 1, 1) := by decide +kernel
theorem dc_H_announce_28 : decode cd_H_announce 28 = .ok (.getfield 126, 3) := by decide +kernel
theorem dc_H_announce_31 : decode cd_H_announce 31 = .ok (.putfield 207, 3) := by decide +kernel
theorem dc_H_announce_34 : decode cd_H_announce 34 = .ok (.aload_n 1, 1) := by decide +kernel
theorem dc_H_announce_35 : decode cd_H_announce 35 = .ok (.iconst 0, 1) := by decide +kernel
theorem dc_H_announce_36 : decode cd_H_announce 36 = .ok (.putfield 210, 3) := by decide +kernel
theorem dc_H_announce_39 : decode cd_H_announce 39 = .ok (.aload_n 1, 1) := by decide +kernel
theorem dc_H_announce_40 : decode cd_H_announce 40 = .ok (.iconst 1, 1) := by decide +kernel
theorem dc_H_announce_41 : decode cd_H_announce 41 = .ok (.putfield 63, 3) := by decide +kernel
theorem dc_H_announce_44 : decode cd_H_announce 44 = .ok (.iconst 0, 1) := by decide +kernel
theorem dc_H_announce_45 : decode cd_H_announce 45 = .ok (.ireturn, 1) := by decide +kernel
theorem dc_H_look_0 : decode cd_H_look 0 = .ok (.aload_n 1, 1) := by decide +kernel
theorem dc_H_look_1 : decode cd_H_look 1 = .ok (.getfield 210, 3) := by decide +kernel
theorem dc_H_look_4 : decode cd_H_look 4 = .ok (.aload_n 0, 1) := by decide +kernel
theorem dc_H_look_5 : decode cd_H_look 5 = .ok (.getfield 49, 3) := by decide +kernel
theorem dc_H_look_8 : decode cd_H_look 8 = .ok (.arraylength, 1) := by decide +kernel
theorem dc_H_look_9 : decode cd_H_look 9 = .ok (.if_icmp .ge 35, 3) := by decide +kernel
theorem dc_H_look_12 : decode cd_H_look 12 = .ok (.aload_n 0, 1) := by decide +kernel
theorem dc_H_look_13 : decode cd_H_look 13 = .ok (.getfield 49, 3) := by decide +kernel
theorem dc_H_look_16 : decode cd_H_look 16 = .ok (.aload_n 1, 1) := by decide +kernel
theorem dc_H_look_17 : decode cd_H_look 17 = .ok (.getfield 210, 3) := by decide +kernel
theorem dc_H_look_20 : decode cd_H_look 20 = .ok (.aaload, 1) := by decide +kernel
theorem dc_H_look_21 : decode cd_H_look 21 = .ok (.getfield 126, 3) := by decide +kernel
theorem dc_H_look_24 : decode cd_H_look 24 = .ok (.astore_n 2, 1) := by decide +kernel
theorem dc_H_look_25 : decode cd_H_look 25 = .ok (.aload_n 2, 1) := by decide +kernel
theorem dc_H_look_26 : decode cd_H_look 26 = .ok (.getfield 43, 3) := by decide +kernel
theorem dc_H_look_29 : decode cd_H_look 29 = .ok (.aload_n 1, 1) := by decide +kernel
theorem dc_H_look_30 : decode cd_H_look 30 = .ok (.getfield 207, 3) := by decide +kernel
theorem dc_H_look_33 : decode cd_H_look 33 = .ok (.getfield 43, 3) := by decide +kernel
theorem dc_H_look_36 : decode cd_H_look 36 = .ok (.if_icmp .le 8, 3) := by decide +kernel
theorem dc_H_look_39 : decode cd_H_look 39 = .ok (.aload_n 1, 1) := by decide +kernel
theorem dc_H_look_40 : decode cd_H_look 40 = .ok (.aload_n 2, 1) := by decide +kernel
theorem dc_H_look_41 : decode cd_H_look 41 = .ok (.putfield 207, 3) := by decide +kernel
theorem dc_H_look_44 : decode cd_H_look 44 = .ok (.aload_n 1, 1) := by decide +kernel
theorem dc_H_look_45 : decode cd_H_look 45 = .ok (.dup, 1) := by decide +kernel
theorem dc_H_look_46 : decode cd_H_look 46 = .ok (.getfield 210, 3) := by decide +kernel
theorem dc_H_look_49 : decode cd_H_look 49 = .ok (.iconst 1, 1) := by decide +kernel
theorem dc_H_look_50 : decode cd_H_look 50 = .ok (.iadd, 1) := by decide +kernel
theorem dc_H_look_51 : decode cd_H_look 51 = .ok (.putfield 210, 3) := by decide +kernel
theorem dc_H_look_54 : decode cd_H_look 54 = .ok (.aload_n 1, 1) := by decide +kernel
theorem dc_H_look_55 : decode cd_H_look 55 = .ok (.getfield 210, 3) := by decide +kernel
theorem dc_H_look_58 : decode cd_H_look 58 = .ok (.aload_n 0, 1) := by decide +kernel
theorem dc_H_look_59 : decode cd_H_look 59 = .ok (.getfield 49, 3) := by decide +kernel
theorem dc_H_look_62 : decode cd_H_look 62 = .ok (.arraylength, 1) := by decide +kernel
theorem dc_H_look_63 : decode cd_H_look 63 = .ok (.if_icmp .lt 8, 3) := by decide +kernel
theorem dc_H_look_66 : decode cd_H_look 66 = .ok (.aload_n 1, 1) := by decide +kernel
theorem dc_H_look_67 : decode cd_H_look 67 = .ok (.iconst 2, 1) := by decide +kernel
theorem dc_H_look_68 : decode cd_H_look 68 = .ok (.putfield 63, 3) := by decide +kernel
theorem dc_H_look_71 : decode cd_H_look 71 = .ok (.return_, 1) := by decide +kernel
theorem dc_H_choose_0 : decode cd_H_choose 0 = .ok (.aload_n 1, 1) := by decide +kernel
theorem dc_H_choose_1 : decode cd_H_choose 1 = .ok (.getfield 207, 3) := by decide +kernel
theorem dc_H_choose_4 : decode cd_H_choose 4 = .ok (.getfield 43, 3) := by decide +kernel
theorem dc_H_choose_7 : decode cd_H_choose 7 = .ok (.iconst 1, 1) := by decide +kernel
theorem dc_H_choose_8 : decode cd_H_choose 8 = .ok (.iadd, 1) := by decide +kernel
theorem dc_H_choose_9 : decode cd_H_choose 9 = .ok (.istore_n 2, 1) := by decide +kernel
theorem dc_H_choose_10 : decode cd_H_choose 10 = .ok (.aload_n 0, 1) := by decide +kernel
theorem dc_H_choose_11 : decode cd_H_choose 11 = .ok (.getfield 49, 3) := by decide +kernel
theorem dc_H_choose_14 : decode cd_H_choose 14 = .ok (.iload_n 2, 1) := by decide +kernel
theorem dc_H_choose_15 : decode cd_H_choose 15 = .ok (.aload_n 0, 1) := by decide +kernel
theorem dc_H_choose_16 : decode cd_H_choose 16 = .ok (.getfield 49, 3) := by decide +kernel
theorem dc_H_choose_19 : decode cd_H_choose 19 = .ok (.arraylength, 1) := by decide +kernel
theorem dc_H_choose_20 : decode cd_H_choose 20 = .ok (.invokestatic 213, 3) := by decide +kernel
theorem dc_H_choose_23 : decode cd_H_choose 23 = .ok (.aaload, 1) := by decide +kernel
theorem dc_H_choose_24 : decode cd_H_choose 24 = .ok (.getfield 204, 3) := by decide +kernel
theorem dc_H_choose_27 : decode cd_H_choose 27 = .ok (.astore_n 3, 1) := by decide +kernel
theorem dc_H_choose_28 : decode cd_H_choose 28 = .ok (.aload_n 1, 1) := by decide +kernel
theorem dc_H_choose_29 : decode cd_H_choose 29 = .ok (.aload_n 3, 1) := by decide +kernel
theorem dc_H_choose_30 : decode cd_H_choose 30 = .ok (.ifnull 14, 3) := by decide +kernel
theorem dc_H_choose_33 : decode cd_H_choose 33 = .ok (.aload_n 3, 1) := by decide +kernel
theorem dc_H_choose_34 : decode cd_H_choose 34 = .ok (.getfield 43, 3) := by decide +kernel
theorem dc_H_choose_37 : decode cd_H_choose 37 = .ok (.ifCond .ne 7, 3) := by decide +kernel
theorem dc_H_choose_40 : decode cd_H_choose 40 = .ok (.aload_n 3, 1) := by decide +kernel
theorem dc_H_choose_41 : decode cd_H_choose 41 = .ok (.goto 7, 3) := by decide +kernel
theorem dc_H_choose_44 : decode cd_H_choose 44 = .ok (.aload_n 1, 1) := by decide +kernel
theorem dc_H_choose_45 : decode cd_H_choose 45 = .ok (.getfield 180, 3) := by decide +kernel
theorem dc_H_choose_48 : decode cd_H_choose 48 = .ok (.putfield 216, 3) := by decide +kernel
theorem dc_H_choose_51 : decode cd_H_choose 51 = .ok (.aload_n 1, 1) := by decide +kernel
theorem dc_H_choose_52 : decode cd_H_choose 52 = .ok (.iconst 4, 1) := by decide +kernel
theorem dc_H_choose_53 : decode cd_H_choose 53 = .ok (.putfield 63, 3) := by decide +kernel
theorem dc_H_choose_56 : decode cd_H_choose 56 = .ok (.return_, 1) := by decide +kernel
theorem dc_H_propose_0 : decode cd_H_propose 0 = .ok (.aload_n 1, 1) := by decide +kernel
theorem dc_H_propose_1 : decode cd_H_propose 1 = .ok (.getfield 207, 3) := by decide +kernel
theorem dc_H_propose_4 : decode cd_H_propose 4 = .ok (.getfield 219, 3) := by decide +kernel
theorem dc_H_propose_7 : decode cd_H_propose 7 = .ok (.ifnonnull 14, 3) := by decide +kernel
theorem dc_H_propose_10 : decode cd_H_propose 10 = .ok (.aload_n 1, 1) := by decide +kernel
theorem dc_H_propose_11 : decode cd_H_propose 11 = .ok (.getfield 207, 3) := by decide +kernel
theorem dc_H_propose_14 : decode cd_H_propose 14 = .ok (.aload_n 1, 1) := by decide +kernel
theorem dc_H_propose_15 : decode cd_H_propose 15 = .ok (.getfield 216, 3) := by decide +kernel
theorem dc_H_propose_18 : decode cd_H_propose 18 = .ok (.putfield 219, 3) := by decide +kernel
theorem dc_H_propose_21 : decode cd_H_propose 21 = .ok (.aload_n 1, 1) := by decide +kernel
theorem dc_H_propose_22 : decode cd_H_propose 22 = .ok (.aload_n 1, 1) := by decide +kernel
theorem dc_H_propose_23 : decode cd_H_propose 23 = .ok (.getfield 207, 3) := by decide +kernel
theorem dc_H_propose_26 : decode cd_H_propose 26 = .ok (.getfield 219, 3) := by decide +kernel
theorem dc_H_propose_29 : decode cd_H_propose 29 = .ok (.putfield 216, 3) := by decide +kernel
theorem dc_H_propose_32 : decode cd_H_propose 32 = .ok (.aload_n 1, 1) := by decide +kernel
theorem dc_H_propose_33 : decode cd_H_propose 33 = .ok (.iconst 5, 1) := by decide +kernel
theorem dc_H_propose_34 : decode cd_H_propose 34 = .ok (.putfield 63, 3) := by decide +kernel
theorem dc_H_propose_37 : decode cd_H_propose 37 = .ok (.return_, 1) := by decide +kernel
theorem dc_H_giveNumber_0 : decode cd_H_giveNumber 0 = .ok (.aload_n 1, 1) := by decide +kernel
theorem dc_H_giveNumber_1 : decode cd_H_giveNumber 1 = .ok (.getfield 216, 3) := by decide +kernel
theorem dc_H_giveNumber_4 : decode cd_H_giveNumber 4 = .ok (.astore_n 2, 1) := by decide +kernel
theorem dc_H_giveNumber_5 : decode cd_H_giveNumber 5 = .ok (.aload_n 2, 1) := by decide +kernel
theorem dc_H_giveNumber_6 : decode cd_H_giveNumber 6 = .ok (.getfield 43, 3) := by decide +kernel
theorem dc_H_giveNumber_9 : decode cd_H_giveNumber 9 = .ok (.ifCond .ne 26, 3) := by decide +kernel
theorem dc_H_giveNumber_12 : decode cd_H_giveNumber 12 = .ok (.aload_n 2, 1) := by decide +kernel
theorem dc_H_giveNumber_13 : decode cd_H_giveNumber 13 = .ok (.aload_n 0, 1) := by decide +kernel
theorem dc_H_giveNumber_14 : decode cd_H_giveNumber 14 = .ok (.getfield 22, 3) := by decide +kernel
theorem dc_H_giveNumber_17 : decode cd_H_giveNumber 17 = .ok (.aload_n 2, 1) := by decide +kernel
theorem dc_H_giveNumber_18 : decode cd_H_giveNumber 18 = .ok (.getfield 222, 3) := by decide +kernel
theorem dc_H_giveNumber_21 : decode cd_H_giveNumber 21 = .ok (.aload_n 2, 1) := by decide +kernel
theorem dc_H_giveNumber_22 : decode cd_H_giveNumber 22 = .ok (.getfield 223, 3) := by decide +kernel
theorem dc_H_giveNumber_25 : decode cd_H_giveNumber 25 = .ok (.aload_n 2, 1) := by decide +kernel
theorem dc_H_giveNumber_26 : decode cd_H_giveNumber 26 = .ok (.getfield 224, 3) := by decide +kernel
theorem dc_H_giveNumber_29 : decode cd_H_giveNumber 29 = .ok (.invokevirtual 150, 3) := by decide +kernel
theorem dc_H_giveNumber_32 : decode cd_H_giveNumber 32 = .ok (.putfield 225, 3) := by decide +kernel
theorem dc_H_giveNumber_35 : decode cd_H_giveNumber 35 = .ok (.aload_n 2, 1) := by decide +kernel
theorem dc_H_giveNumber_36 : decode cd_H_giveNumber 36 = .ok (.aload_n 1, 1) := by decide +kernel
theorem dc_H_giveNumber_37 : decode cd_H_giveNumber 37 = .ok (.getfield 207, 3) := by decide +kernel
theorem dc_H_giveNumber_40 : decode cd_H_giveNumber 40 = .ok (.getfield 43, 3) := by decide +kernel
theorem dc_H_giveNumber_43 : decode cd_H_giveNumber 43 = .ok (.iconst 1, 1) := by decide +kernel
theorem dc_H_giveNumber_44 : decode cd_H_giveNumber 44 = .ok (.iadd, 1) := by decide +kernel
theorem dc_H_giveNumber_45 : decode cd_H_giveNumber 45 = .ok (.putfield 43, 3) := by decide +kernel
theorem dc_H_giveNumber_48 : decode cd_H_giveNumber 48 = .ok (.aload_n 1, 1) := by decide +kernel
theorem dc_H_giveNumber_49 : decode cd_H_giveNumber 49 = .ok (.bipush 6, 2) := by decide +kernel
theorem dc_H_giveNumber_51 : decode cd_H_giveNumber 51 = .ok (.putfield 63, 3) := by decide +kernel
theorem dc_H_giveNumber_54 : decode cd_H_giveNumber 54 = .ok (.return_, 1) := by decide +kernel
theorem dc_H_move_0 : decode cd_H_move 0 = .ok (.aload_n 0, 1) := by decide +kernel
theorem dc_H_move_1 : decode cd_H_move 1 = .ok (.aload_n 0, 1) := by decide +kernel
theorem dc_H_move_2 : decode cd_H_move 2 = .ok (.getfield 216, 3) := by decide +kernel
theorem dc_H_move_5 : decode cd_H_move 5 = .ok (.putfield 126, 3) := by decide +kernel
theorem dc_H_move_8 : decode cd_H_move 8 = .ok (.aload_n 0, 1) := by decide +kernel
theorem dc_H_move_9 : decode cd_H_move 9 = .ok (.aload_n 0, 1) := by decide +kernel
theorem dc_H_move_10 : decode cd_H_move 10 = .ok (.getfield 216, 3) := by decide +kernel
theorem dc_H_move_13 : decode cd_H_move 13 = .ok (.putfield 207, 3) := by decide +kernel
theorem dc_H_move_16 : decode cd_H_move 16 = .ok (.aload_n 0, 1) := by decide +kernel
theorem dc_H_move_17 : decode cd_H_move 17 = .ok (.iconst 2, 1) := by decide +kernel
theorem dc_H_move_18 : decode cd_H_move 18 = .ok (.putfield 63, 3) := by decide +kernel
theorem dc_H_move_21 : decode cd_H_move 21 = .ok (.return_, 1) := by decide +kernel
theorem dc_H_finish_0 : decode cd_H_finish 0 = .ok (.aload_n 0, 1) := by decide +kernel
theorem dc_H_finish_1 : decode cd_H_finish 1 = .ok (.aload_n 0, 1) := by decide +kernel
theorem dc_H_finish_2 : decode cd_H_finish 2 = .ok (.getfield 180, 3) := by decide +kernel
theorem dc_H_finish_5 : decode cd_H_finish 5 = .ok (.putfield 126, 3) := by decide +kernel
theorem dc_H_finish_8 : decode cd_H_finish 8 = .ok (.aload_n 0, 1) := by decide +kernel
theorem dc_H_finish_9 : decode cd_H_finish 9 = .ok (.aconst_null, 1) := by decide +kernel
theorem dc_H_finish_10 : decode cd_H_finish 10 = .ok (.putfield 204, 3) := by decide +kernel
theorem dc_H_finish_13 : decode cd_H_finish 13 = .ok (.aload_n 0, 1) := by decide +kernel
theorem dc_H_finish_14 : decode cd_H_finish 14 = .ok (.dup, 1) := by decide +kernel
theorem dc_H_finish_15 : decode cd_H_finish 15 = .ok (.getfield 92, 3) := by decide +kernel
theorem dc_H_finish_18 : decode cd_H_finish 18 = .ok (.iconst 1, 1) := by decide +kernel
theorem dc_H_finish_19 : decode cd_H_finish 19 = .ok (.iadd, 1) := by decide +kernel
theorem dc_H_finish_20 : decode cd_H_finish 20 = .ok (.putfield 92, 3) := by decide +kernel
theorem dc_H_finish_23 : decode cd_H_finish 23 = .ok (.aload_n 0, 1) := by decide +kernel
theorem dc_H_finish_24 : decode cd_H_finish 24 = .ok (.aload_n 0, 1) := by decide +kernel
theorem dc_H_finish_25 : decode cd_H_finish 25 = .ok (.getfield 180, 3) := by decide +kernel
theorem dc_H_finish_28 : decode cd_H_finish 28 = .ok (.getfield 225, 3) := by decide +kernel
theorem dc_H_finish_31 : decode cd_H_finish 31 = .ok (.putfield 97, 3) := by decide +kernel
theorem dc_H_finish_34 : decode cd_H_finish 34 = .ok (.aload_n 0, 1) := by decide +kernel
theorem dc_H_finish_35 : decode cd_H_finish 35 = .ok (.aload_n 0, 1) := by decide +kernel
theorem dc_H_finish_36 : decode cd_H_finish 36 = .ok (.getfield 180, 3) := by decide +kernel
theorem dc_H_finish_39 : decode cd_H_finish 39 = .ok (.getfield 43, 3) := by decide +kernel
theorem dc_H_finish_42 : decode cd_H_finish 42 = .ok (.putfield 100, 3) := by decide +kernel
theorem dc_H_finish_45 : decode cd_H_finish 45 = .ok (.aload_n 0, 1) := by decide +kernel
theorem dc_H_finish_46 : decode cd_H_finish 46 = .ok (.iconst (-1), 1) := by decide +kernel
theorem dc_H_finish_47 : decode cd_H_finish 47 = .ok (.putfield 63, 3) := by decide +kernel
theorem dc_H_finish_50 : decode cd_H_finish 50 = .ok (.return_, 1) := by decide +kernel
theorem dc_H_findFree_0 : decode cd_H_findFree 0 = .ok (.aload_n 0, 1) := by decide +kernel
theorem dc_H_findFree_1 : decode cd_H_findFree 1 = .ok (.getfield 34, 3) := by decide +kernel
theorem dc_H_findFree_4 : decode cd_H_findFree 4 = .ok (.astore_n 1, 1) := by decide +kernel
theorem dc_H_findFree_5 : decode cd_H_findFree 5 = .ok (.aload_n 1, 1) := by decide +kernel
theorem dc_H_findFree_6 : decode cd_H_findFree 6 = .ok (.arraylength, 1) := by decide +kernel
theorem dc_H_findFree_7 : decode cd_H_findFree 7 = .ok (.istore_n 2, 1) := by decide +kernel
theorem dc_H_findFree_8 : decode cd_H_findFree 8 = .ok (.iconst 0, 1) := by decide +kernel
theorem dc_H_findFree_9 : decode cd_H_findFree 9 = .ok (.istore_n 3, 1) := by decide +kernel
theorem dc_H_findFree_10 : decode cd_H_findFree 10 = .ok (.iload_n 3, 1) := by decide +kernel
theorem dc_H_findFree_11 : decode cd_H_findFree 11 = .ok (.iload_n 2, 1) := by decide +kernel
theorem dc_H_findFree_12 : decode cd_H_findFree 12 = .ok (.if_icmp .ge 25, 3) := by decide +kernel
theorem dc_H_findFree_15 : decode cd_H_findFree 15 = .ok (.aload_n 1, 1) := by decide +kernel
theorem dc_H_findFree_16 : decode cd_H_findFree 16 = .ok (.iload_n 3, 1) := by decide +kernel
theorem dc_H_findFree_17 : decode cd_H_findFree 17 = .ok (.aaload, 1) := by decide +kernel
theorem dc_H_findFree_18 : decode cd_H_findFree 18 = .ok (.astore 4, 2) := by decide +kernel
theorem dc_H_findFree_20 : decode cd_H_findFree 20 = .ok (.aload 4, 2) := by decide +kernel
theorem dc_H_findFree_22 : decode cd_H_findFree 22 = .ok (.getfield 39, 3) := by decide +kernel
theorem dc_H_findFree_25 : decode cd_H_findFree 25 = .ok (.ifCond .ne 6, 3) := by decide +kernel
theorem dc_H_findFree_28 : decode cd_H_findFree 28 = .ok (.aload 4, 2) := by decide +kernel
theorem dc_H_findFree_30 : decode cd_H_findFree 30 = .ok (.areturn, 1) := by decide +kernel
theorem dc_H_findFree_31 : decode cd_H_findFree 31 = .ok (.iinc 3 1, 3) := by decide +kernel
theorem dc_H_findFree_34 : decode cd_H_findFree 34 = .ok (.goto (-24), 3) := by decide +kernel
theorem dc_H_findFree_37 : decode cd_H_findFree 37 = .ok (.aconst_null, 1) := by decide +kernel
theorem dc_H_findFree_38 : decode cd_H_findFree 38 = .ok (.areturn, 1) := by decide +kernel
theorem dc_H_findOnLog_0 : decode cd_H_findOnLog 0 = .ok (.aload_n 0, 1) := by decide +kernel
theorem dc_H_findOnLog_1 : decode cd_H_findOnLog 1 = .ok (.getfield 34, 3) := by decide +kernel
theorem dc_H_findOnLog_4 : decode cd_H_findOnLog 4 = .ok (.astore_n 2, 1) := by decide +kernel
theorem dc_H_findOnLog_5 : decode cd_H_findOnLog 5 = .ok (.aload_n 2, 1) := by decide +kernel
theorem dc_H_findOnLog_6 : decode cd_H_findOnLog 6 = .ok (.arraylength, 1) := by decide +kernel
theorem dc_H_findOnLog_7 : decode cd_H_findOnLog 7 = .ok (.istore_n 3, 1) := by decide +kernel
theorem dc_H_findOnLog_8 : decode cd_H_findOnLog 8 = .ok (.iconst 0, 1) := by decide +kernel
theorem dc_H_findOnLog_9 : decode cd_H_findOnLog 9 = .ok (.istore 4, 2) := by decide +kernel
theorem dc_H_findOnLog_11 : decode cd_H_findOnLog 11 = .ok (.iload 4, 2) := by decide +kernel
theorem dc_H_findOnLog_13 : decode cd_H_findOnLog 13 = .ok (.iload_n 3, 1) := by decide +kernel
theorem dc_H_findOnLog_14 : decode cd_H_findOnLog 14 = .ok (.if_icmp .ge 35, 3) := by decide +kernel
theorem dc_H_findOnLog_17 : decode cd_H_findOnLog 17 = .ok (.aload_n 2, 1) := by decide +kernel
theorem dc_H_findOnLog_18 : decode cd_H_findOnLog 18 = .ok (.iload 4, 2) := by decide +kernel
theorem dc_H_findOnLog_20 : decode cd_H_findOnLog 20 = .ok (.aaload, 1) := by decide +kernel
theorem dc_H_findOnLog_21 : decode cd_H_findOnLog 21 = .ok (.astore 5, 2) := by decide +kernel
theorem dc_H_findOnLog_23 : decode cd_H_findOnLog 23 = .ok (.aload 5, 2) := by decide +kernel
theorem dc_H_findOnLog_25 : decode cd_H_findOnLog 25 = .ok (.invokevirtual 103, 3) := by decide +kernel
theorem dc_H_findOnLog_28 : decode cd_H_findOnLog 28 = .ok (.ifCond .eq 15, 3) := by decide +kernel
theorem dc_H_findOnLog_31 : decode cd_H_findOnLog 31 = .ok (.aload 5, 2) := by decide +kernel
theorem dc_H_findOnLog_33 : decode cd_H_findOnLog 33 = .ok (.getfield 43, 3) := by decide +kernel
theorem dc_H_findOnLog_36 : decode cd_H_findOnLog 36 = .ok (.iload_n 1, 1) := by decide +kernel
theorem dc_H_findOnLog_37 : decode cd_H_findOnLog 37 = .ok (.if_icmp .ne 6, 3) := by decide +kernel
theorem dc_H_findOnLog_40 : decode cd_H_findOnLog 40 = .ok (.aload 5, 2) := by decide +kernel
theorem dc_H_findOnLog_42 : decode cd_H_findOnLog 42 = .ok (.areturn, 1) := by decide +kernel
theorem dc_H_findOnLog_43 : decode cd_H_findOnLog 43 = .ok (.iinc 4 1, 3) := by decide +kernel
theorem dc_H_findOnLog_46 : decode cd_H_findOnLog 46 = .ok (.goto (-35), 3) := by decide +kernel
theorem dc_H_findOnLog_49 : decode cd_H_findOnLog 49 = .ok (.aconst_null, 1) := by decide +kernel
theorem dc_H_findOnLog_50 : decode cd_H_findOnLog 50 = .ok (.areturn, 1) := by decide +kernel
theorem dc_H_greatestHead_0 : decode cd_H_greatestHead 0 = .ok (.aload_n 0, 1) := by decide +kernel
theorem dc_H_greatestHead_1 : decode cd_H_greatestHead 1 = .ok (.getfield 49, 3) := by decide +kernel
theorem dc_H_greatestHead_4 : decode cd_H_greatestHead 4 = .ok (.iconst 0, 1) := by decide +kernel
theorem dc_H_greatestHead_5 : decode cd_H_greatestHead 5 = .ok (.aaload, 1) := by decide +kernel
theorem dc_H_greatestHead_6 : decode cd_H_greatestHead 6 = .ok (.getfield 126, 3) := by decide +kernel
theorem dc_H_greatestHead_9 : decode cd_H_greatestHead 9 = .ok (.astore_n 1, 1) := by decide +kernel
theorem dc_H_greatestHead_10 : decode cd_H_greatestHead 10 = .ok (.aload_n 0, 1) := by decide +kernel
theorem dc_H_greatestHead_11 : decode cd_H_greatestHead 11 = .ok (.getfield 49, 3) := by decide +kernel
theorem dc_H_greatestHead_14 : decode cd_H_greatestHead 14 = .ok (.astore_n 2, 1) := by decide +kernel
theorem dc_H_greatestHead_15 : decode cd_H_greatestHead 15 = .ok (.aload_n 2, 1) := by decide +kernel
theorem dc_H_greatestHead_16 : decode cd_H_greatestHead 16 = .ok (.arraylength, 1) := by decide +kernel
theorem dc_H_greatestHead_17 : decode cd_H_greatestHead 17 = .ok (.istore_n 3, 1) := by decide +kernel
theorem dc_H_greatestHead_18 : decode cd_H_greatestHead 18 = .ok (.iconst 0, 1) := by decide +kernel
theorem dc_H_greatestHead_19 : decode cd_H_greatestHead 19 = .ok (.istore 4, 2) := by decide +kernel
theorem dc_H_greatestHead_21 : decode cd_H_greatestHead 21 = .ok (.iload 4, 2) := by decide +kernel
theorem dc_H_greatestHead_23 : decode cd_H_greatestHead 23 = .ok (.iload_n 3, 1) := by decide +kernel
theorem dc_H_greatestHead_24 : decode cd_H_greatestHead 24 = .ok (.if_icmp .ge 36, 3) := by decide +kernel
theorem dc_H_greatestHead_27 : decode cd_H_greatestHead 27 = .ok (.aload_n 2, 1) := by decide +kernel
theorem dc_H_greatestHead_28 : decode cd_H_greatestHead 28 = .ok (.iload 4, 2) := by decide +kernel
theorem dc_H_greatestHead_30 : decode cd_H_greatestHead 30 = .ok (.aaload, 1) := by decide +kernel
theorem dc_H_greatestHead_31 : decode cd_H_greatestHead 31 = .ok (.astore 5, 2) := by decide +kernel
theorem dc_H_greatestHead_33 : decode cd_H_greatestHead 33 = .ok (.aload 5, 2) := by decide +kernel
theorem dc_H_greatestHead_35 : decode cd_H_greatestHead 35 = .ok (.getfield 126, 3) := by decide +kernel
theorem dc_H_greatestHead_38 : decode cd_H_greatestHead 38 = .ok (.getfield 43, 3) := by decide +kernel
theorem dc_H_greatestHead_41 : decode cd_H_greatestHead 41 = .ok (.aload_n 1, 1) := by decide +kernel
theorem dc_H_greatestHead_42 : decode cd_H_greatestHead 42 = .ok (.getfield 43, 3) := by decide +kernel
theorem dc_H_greatestHead_45 : decode cd_H_greatestHead 45 = .ok (.if_icmp .le 9, 3) := by decide +kernel
theorem dc_H_greatestHead_48 : decode cd_H_greatestHead 48 = .ok (.aload 5, 2) := by decide +kernel
theorem dc_H_greatestHead_50 : decode cd_H_greatestHead 50 = .ok (.getfield 126, 3) := by decide +kernel
theorem dc_H_greatestHead_53 : decode cd_H_greatestHead 53 = .ok (.astore_n 1, 1) := by decide +kernel
theorem dc_H_greatestHead_54 : decode cd_H_greatestHead 54 = .ok (.iinc 4 1, 3) := by decide +kernel
theorem dc_H_greatestHead_57 : decode cd_H_greatestHead 57 = .ok (.goto (-36), 3) := by decide +kernel
theorem dc_H_greatestHead_60 : decode cd_H_greatestHead 60 = .ok (.aload_n 1, 1) := by decide +kernel
theorem dc_H_greatestHead_61 : decode cd_H_greatestHead 61 = .ok (.areturn, 1) := by decide +kernel
theorem dc_H_bringIdleHeadsTo_0 : decode cd_H_bringIdleHeadsTo 0 = .ok (.aload_n 0, 1) := by decide +kernel
theorem dc_H_bringIdleHeadsTo_1 : decode cd_H_bringIdleHeadsTo 1 = .ok (.getfield 49, 3) := by decide +kernel
theorem dc_H_bringIdleHeadsTo_4 : decode cd_H_bringIdleHeadsTo 4 = .ok (.astore_n 2, 1) := by decide +kernel
theorem dc_H_bringIdleHeadsTo_5 : decode cd_H_bringIdleHeadsTo 5 = .ok (.aload_n 2, 1) := by decide +kernel
theorem dc_H_bringIdleHeadsTo_6 : decode cd_H_bringIdleHeadsTo 6 = .ok (.arraylength, 1) := by decide +kernel
theorem dc_H_bringIdleHeadsTo_7 : decode cd_H_bringIdleHeadsTo 7 = .ok (.istore_n 3, 1) := by decide +kernel
theorem dc_H_bringIdleHeadsTo_8 : decode cd_H_bringIdleHeadsTo 8 = .ok (.iconst 0, 1) := by decide +kernel
theorem dc_H_bringIdleHeadsTo_9 : decode cd_H_bringIdleHeadsTo 9 = .ok (.istore 4, 2) := by decide +kernel
theorem dc_H_bringIdleHeadsTo_11 : decode cd_H_bringIdleHeadsTo 11 = .ok (.iload 4, 2) := by decide +kernel
theorem dc_H_bringIdleHeadsTo_13 : decode cd_H_bringIdleHeadsTo 13 = .ok (.iload_n 3, 1) := by decide +kernel
theorem dc_H_bringIdleHeadsTo_14 : decode cd_H_bringIdleHeadsTo 14 = .ok (.if_icmp .ge 30, 3) := by decide +kernel
theorem dc_H_bringIdleHeadsTo_17 : decode cd_H_bringIdleHeadsTo 17 = .ok (.aload_n 2, 1) := by decide +kernel
theorem dc_H_bringIdleHeadsTo_18 : decode cd_H_bringIdleHeadsTo 18 = .ok (.iload 4, 2) := by decide +kernel
theorem dc_H_bringIdleHeadsTo_20 : decode cd_H_bringIdleHeadsTo 20 = .ok (.aaload, 1) := by decide +kernel
theorem dc_H_bringIdleHeadsTo_21 : decode cd_H_bringIdleHeadsTo 21 = .ok (.astore 5, 2) := by decide +kernel
theorem dc_H_bringIdleHeadsTo_23 : decode cd_H_bringIdleHeadsTo 23 = .ok (.aload 5, 2) := by decide +kernel
theorem dc_H_bringIdleHeadsTo_25 : decode cd_H_bringIdleHeadsTo 25 = .ok (.getfield 63, 3) := by decide +kernel
theorem dc_H_bringIdleHeadsTo_28 : decode cd_H_bringIdleHeadsTo 28 = .ok (.iconst (-1), 1) := by decide +kernel
theorem dc_H_bringIdleHeadsTo_29 : decode cd_H_bringIdleHeadsTo 29 = .ok (.if_icmp .ne 9, 3) := by decide +kernel
theorem dc_H_bringIdleHeadsTo_32 : decode cd_H_bringIdleHeadsTo 32 = .ok (.aload 5, 2) := by decide +kernel
theorem dc_H_bringIdleHeadsTo_34 : decode cd_H_bringIdleHeadsTo 34 = .ok (.aload_n 1, 1) := by decide +kernel
theorem dc_H_bringIdleHeadsTo_35 : decode cd_H_bringIdleHeadsTo 35 = .ok (.putfield 126, 3) := by decide +kernel
theorem dc_H_bringIdleHeadsTo_38 : decode cd_H_bringIdleHeadsTo 38 = .ok (.iinc 4 1, 3) := by decide +kernel
theorem dc_H_bringIdleHeadsTo_41 : decode cd_H_bringIdleHeadsTo 41 = .ok (.goto (-30), 3) := by decide +kernel
theorem dc_H_bringIdleHeadsTo_44 : decode cd_H_bringIdleHeadsTo 44 = .ok (.return_, 1) := by decide +kernel
theorem dc_H_leastHeadNumber_0 : decode cd_H_leastHeadNumber 0 = .ok (.aload_n 0, 1) := by decide +kernel
theorem dc_H_leastHeadNumber_1 : decode cd_H_leastHeadNumber 1 = .ok (.getfield 49, 3) := by decide +kernel
theorem dc_H_leastHeadNumber_4 : decode cd_H_leastHeadNumber 4 = .ok (.iconst 0, 1) := by decide +kernel
theorem dc_H_leastHeadNumber_5 : decode cd_H_leastHeadNumber 5 = .ok (.aaload, 1) := by decide +kernel
theorem dc_H_leastHeadNumber_6 : decode cd_H_leastHeadNumber 6 = .ok (.getfield 126, 3) := by decide +kernel
theorem dc_H_leastHeadNumber_9 : decode cd_H_leastHeadNumber 9 = .ok (.getfield 43, 3) := by decide +kernel
theorem dc_H_leastHeadNumber_12 : decode cd_H_leastHeadNumber 12 = .ok (.istore_n 1, 1) := by decide +kernel
theorem dc_H_leastHeadNumber_13 : decode cd_H_leastHeadNumber 13 = .ok (.aload_n 0, 1) := by decide +kernel
theorem dc_H_leastHeadNumber_14 : decode cd_H_leastHeadNumber 14 = .ok (.getfield 49, 3) := by decide +kernel
theorem dc_H_leastHeadNumber_17 : decode cd_H_leastHeadNumber 17 = .ok (.astore_n 2, 1) := by decide +kernel
theorem dc_H_leastHeadNumber_18 : decode cd_H_leastHeadNumber 18 = .ok (.aload_n 2, 1) := by decide +kernel
theorem dc_H_leastHeadNumber_19 : decode cd_H_leastHeadNumber 19 = .ok (.arraylength, 1) := by decide +kernel
theorem dc_H_leastHeadNumber_20 : decode cd_H_leastHeadNumber 20 = .ok (.istore_n 3, 1) := by decide +kernel
theorem dc_H_leastHeadNumber_21 : decode cd_H_leastHeadNumber 21 = .ok (.iconst 0, 1) := by decide +kernel
theorem dc_H_leastHeadNumber_22 : decode cd_H_leastHeadNumber 22 = .ok (.istore 4, 2) := by decide +kernel
theorem dc_H_leastHeadNumber_24 : decode cd_H_leastHeadNumber 24 = .ok (.iload 4, 2) := by decide +kernel
theorem dc_H_leastHeadNumber_26 : decode cd_H_leastHeadNumber 26 = .ok (.iload_n 3, 1) := by decide +kernel
theorem dc_H_leastHeadNumber_27 : decode cd_H_leastHeadNumber 27 = .ok (.if_icmp .ge 28, 3) := by decide +kernel
theorem dc_H_leastHeadNumber_30 : decode cd_H_leastHeadNumber 30 = .ok (.aload_n 2, 1) := by decide +kernel
theorem dc_H_leastHeadNumber_31 : decode cd_H_leastHeadNumber 31 = .ok (.iload 4, 2) := by decide +kernel
theorem dc_H_leastHeadNumber_33 : decode cd_H_leastHeadNumber 33 = .ok (.aaload, 1) := by decide +kernel
theorem dc_H_leastHeadNumber_34 : decode cd_H_leastHeadNumber 34 = .ok (.astore 5, 2) := by decide +kernel
theorem dc_H_leastHeadNumber_36 : decode cd_H_leastHeadNumber 36 = .ok (.iload_n 1, 1) := by decide +kernel
theorem dc_H_leastHeadNumber_37 : decode cd_H_leastHeadNumber 37 = .ok (.aload 5, 2) := by decide +kernel
theorem dc_H_leastHeadNumber_39 : decode cd_H_leastHeadNumber 39 = .ok (.getfield 126, 3) := by decide +kernel
theorem dc_H_leastHeadNumber_42 : decode cd_H_leastHeadNumber 42 = .ok (.getfield 43, 3) := by decide +kernel
theorem dc_H_leastHeadNumber_45 : decode cd_H_leastHeadNumber 45 = .ok (.invokestatic 9, 3) := by decide +kernel
theorem dc_H_leastHeadNumber_48 : decode cd_H_leastHeadNumber 48 = .ok (.istore_n 1, 1) := by decide +kernel
theorem dc_H_leastHeadNumber_49 : decode cd_H_leastHeadNumber 49 = .ok (.iinc 4 1, 3) := by decide +kernel
theorem dc_H_leastHeadNumber_52 : decode cd_H_leastHeadNumber 52 = .ok (.goto (-28), 3) := by decide +kernel
theorem dc_H_leastHeadNumber_55 : decode cd_H_leastHeadNumber 55 = .ok (.iload_n 1, 1) := by decide +kernel
theorem dc_H_leastHeadNumber_56 : decode cd_H_leastHeadNumber 56 = .ok (.ireturn, 1) := by decide +kernel
theorem dc_H_releaseBelow_0 : decode cd_H_releaseBelow 0 = .ok (.iconst 0, 1) := by decide +kernel
theorem dc_H_releaseBelow_1 : decode cd_H_releaseBelow 1 = .ok (.istore_n 2, 1) := by decide +kernel
theorem dc_H_releaseBelow_2 : decode cd_H_releaseBelow 2 = .ok (.aload_n 0, 1) := by decide +kernel
theorem dc_H_releaseBelow_3 : decode cd_H_releaseBelow 3 = .ok (.getfield 34, 3) := by decide +kernel
theorem dc_H_releaseBelow_6 : decode cd_H_releaseBelow 6 = .ok (.astore_n 3, 1) := by decide +kernel
theorem dc_H_releaseBelow_7 : decode cd_H_releaseBelow 7 = .ok (.aload_n 3, 1) := by decide +kernel
theorem dc_H_releaseBelow_8 : decode cd_H_releaseBelow 8 = .ok (.arraylength, 1) := by decide +kernel
theorem dc_H_releaseBelow_9 : decode cd_H_releaseBelow 9 = .ok (.istore 4, 2) := by decide +kernel
theorem dc_H_releaseBelow_11 : decode cd_H_releaseBelow 11 = .ok (.iconst 0, 1) := by decide +kernel
theorem dc_H_releaseBelow_12 : decode cd_H_releaseBelow 12 = .ok (.istore 5, 2) := by decide +kernel
theorem dc_H_releaseBelow_14 : decode cd_H_releaseBelow 14 = .ok (.iload 5, 2) := by decide +kernel
theorem dc_H_releaseBelow_16 : decode cd_H_releaseBelow 16 = .ok (.iload 4, 2) := by decide +kernel
theorem dc_H_releaseBelow_18 : decode cd_H_releaseBelow 18 = .ok (.if_icmp .ge 41, 3) := by decide +kernel
theorem dc_H_releaseBelow_21 : decode cd_H_releaseBelow 21 = .ok (.aload_n 3, 1) := by decide +kernel
theorem dc_H_releaseBelow_22 : decode cd_H_releaseBelow 22 = .ok (.iload 5, 2) := by decide +kernel
theorem dc_H_releaseBelow_24 : decode cd_H_releaseBelow 24 = .ok (.aaload, 1) := by decide +kernel
theorem dc_H_releaseBelow_25 : decode cd_H_releaseBelow 25 = .ok (.astore 6, 2) := by decide +kernel
theorem dc_H_releaseBelow_27 : decode cd_H_releaseBelow 27 = .ok (.aload 6, 2) := by decide +kernel
theorem dc_H_releaseBelow_29 : decode cd_H_releaseBelow 29 = .ok (.invokevirtual 103, 3) := by decide +kernel
theorem dc_H_releaseBelow_32 : decode cd_H_releaseBelow 32 = .ok (.ifCond .eq 21, 3) := by decide +kernel
theorem dc_H_releaseBelow_35 : decode cd_H_releaseBelow 35 = .ok (.aload 6, 2) := by decide +kernel
theorem dc_H_releaseBelow_37 : decode cd_H_releaseBelow 37 = .ok (.getfield 43, 3) := by decide +kernel
theorem dc_H_releaseBelow_40 : decode cd_H_releaseBelow 40 = .ok (.iload_n 1, 1) := by decide +kernel
theorem dc_H_releaseBelow_41 : decode cd_H_releaseBelow 41 = .ok (.if_icmp .ge 12, 3) := by decide +kernel
theorem dc_H_releaseBelow_44 : decode cd_H_releaseBelow 44 = .ok (.aload 6, 2) := by decide +kernel
theorem dc_H_releaseBelow_46 : decode cd_H_releaseBelow 46 = .ok (.iconst 0, 1) := by decide +kernel
theorem dc_H_releaseBelow_47 : decode cd_H_releaseBelow 47 = .ok (.putfield 39, 3) := by decide +kernel
theorem dc_H_releaseBelow_50 : decode cd_H_releaseBelow 50 = .ok (.iinc 2 1, 3) := by decide +kernel
theorem dc_H_releaseBelow_53 : decode cd_H_releaseBelow 53 = .ok (.iinc 5 1, 3) := by decide +kernel
theorem dc_H_releaseBelow_56 : decode cd_H_releaseBelow 56 = .ok (.goto (-42), 3) := by decide +kernel
theorem dc_H_releaseBelow_59 : decode cd_H_releaseBelow 59 = .ok (.iload_n 2, 1) := by decide +kernel
theorem dc_H_releaseBelow_60 : decode cd_H_releaseBelow 60 = .ok (.ireturn, 1) := by decide +kernel
theorem dc_G_init_0 : decode cd_G_init 0 = .ok (.aload_n 0, 1) := by decide +kernel
theorem dc_G_init_1 : decode cd_G_init 1 = .ok (.bipush 8, 2) := by decide +kernel
theorem dc_G_init_3 : decode cd_G_init 3 = .ok (.iconst 0, 1) := by decide +kernel
theorem dc_G_init_4 : decode cd_G_init 4 = .ok (.invokespecial 1, 3) := by decide +kernel
theorem dc_G_init_7 : decode cd_G_init 7 = .ok (.return_, 1) := by decide +kernel
theorem dc_G_perform_0 : decode cd_G_perform 0 = .ok (.iload_n 1, 1) := by decide +kernel
theorem dc_G_perform_1 : decode cd_G_perform 1 = .ok (.lookupswitch 49 #[(0, 27), (1, 33)], 27) := by decide +kernel
theorem dc_G_perform_28 : decode cd_G_perform 28 = .ok (.aload_n 0, 1) := by decide +kernel
theorem dc_G_perform_29 : decode cd_G_perform 29 = .ok (.iload_n 2, 1) := by decide +kernel
theorem dc_G_perform_30 : decode cd_G_perform 30 = .ok (.invokevirtual 7, 3) := by decide +kernel
theorem dc_G_perform_33 : decode cd_G_perform 33 = .ok (.ireturn, 1) := by decide +kernel
theorem dc_G_perform_34 : decode cd_G_perform 34 = .ok (.aload_n 0, 1) := by decide +kernel
theorem dc_G_perform_35 : decode cd_G_perform 35 = .ok (.getfield 13, 3) := by decide +kernel
theorem dc_G_perform_38 : decode cd_G_perform 38 = .ok (.ifCond .le 10, 3) := by decide +kernel
theorem dc_G_perform_41 : decode cd_G_perform 41 = .ok (.aload_n 0, 1) := by decide +kernel
theorem dc_G_perform_42 : decode cd_G_perform 42 = .ok (.invokevirtual 17, 3) := by decide +kernel
theorem dc_G_perform_45 : decode cd_G_perform 45 = .ok (.goto 4, 3) := by decide +kernel
theorem dc_G_perform_48 : decode cd_G_perform 48 = .ok (.iconst (-1), 1) := by decide +kernel
theorem dc_G_perform_49 : decode cd_G_perform 49 = .ok (.ireturn, 1) := by decide +kernel
theorem dc_G_perform_50 : decode cd_G_perform 50 = .ok (.aload_n 0, 1) := by decide +kernel
theorem dc_G_perform_51 : decode cd_G_perform 51 = .ok (.getfield 13, 3) := by decide +kernel
theorem dc_G_perform_54 : decode cd_G_perform 54 = .ok (.ireturn, 1) := by decide +kernel
theorem dc_G_putIn_0 : decode cd_G_putIn 0 = .ok (.aload_n 0, 1) := by decide +kernel
theorem dc_G_putIn_1 : decode cd_G_putIn 1 = .ok (.getfield 13, 3) := by decide +kernel
theorem dc_G_putIn_4 : decode cd_G_putIn 4 = .ok (.aload_n 0, 1) := by decide +kernel
theorem dc_G_putIn_5 : decode cd_G_putIn 5 = .ok (.getfield 21, 3) := by decide +kernel
theorem dc_G_putIn_8 : decode cd_G_putIn 8 = .ok (.arraylength, 1) := by decide +kernel
theorem dc_G_putIn_9 : decode cd_G_putIn 9 = .ok (.if_icmp .lt 5, 3) := by decide +kernel
theorem dc_G_putIn_12 : decode cd_G_putIn 12 = .ok (.iconst (-1), 1) := by decide +kernel
theorem dc_G_putIn_13 : decode cd_G_putIn 13 = .ok (.ireturn, 1) := by decide +kernel
theorem dc_G_putIn_14 : decode cd_G_putIn 14 = .ok (.aload_n 0, 1) := by decide +kernel
theorem dc_G_putIn_15 : decode cd_G_putIn 15 = .ok (.getfield 21, 3) := by decide +kernel
theorem dc_G_putIn_18 : decode cd_G_putIn 18 = .ok (.aload_n 0, 1) := by decide +kernel
theorem dc_G_putIn_19 : decode cd_G_putIn 19 = .ok (.getfield 13, 3) := by decide +kernel
theorem dc_G_putIn_22 : decode cd_G_putIn 22 = .ok (.iload_n 1, 1) := by decide +kernel
theorem dc_G_putIn_23 : decode cd_G_putIn 23 = .ok (.iastore, 1) := by decide +kernel
theorem dc_G_putIn_24 : decode cd_G_putIn 24 = .ok (.aload_n 0, 1) := by decide +kernel
theorem dc_G_putIn_25 : decode cd_G_putIn 25 = .ok (.dup, 1) := by decide +kernel
theorem dc_G_putIn_26 : decode cd_G_putIn 26 = .ok (.getfield 13, 3) := by decide +kernel
theorem dc_G_putIn_29 : decode cd_G_putIn 29 = .ok (.iconst 1, 1) := by decide +kernel
theorem dc_G_putIn_30 : decode cd_G_putIn 30 = .ok (.iadd, 1) := by decide +kernel
theorem dc_G_putIn_31 : decode cd_G_putIn 31 = .ok (.putfield 13, 3) := by decide +kernel
theorem dc_G_putIn_34 : decode cd_G_putIn 34 = .ok (.aload_n 0, 1) := by decide +kernel
theorem dc_G_putIn_35 : decode cd_G_putIn 35 = .ok (.getfield 13, 3) := by decide +kernel
theorem dc_G_putIn_38 : decode cd_G_putIn 38 = .ok (.ireturn, 1) := by decide +kernel
theorem dc_B_init_0 : decode cd_B_init 0 = .ok (.aload_n 0, 1) := by decide +kernel
theorem dc_B_init_1 : decode cd_B_init 1 = .ok (.iconst 4, 1) := by decide +kernel
theorem dc_B_init_2 : decode cd_B_init 2 = .ok (.bipush 100, 2) := by decide +kernel
theorem dc_B_init_4 : decode cd_B_init 4 = .ok (.invokespecial 1, 3) := by decide +kernel
theorem dc_B_init_7 : decode cd_B_init 7 = .ok (.return_, 1) := by decide +kernel
theorem dc_B_perform_0 : decode cd_B_perform 0 = .ok (.iload_n 2, 1) := by decide +kernel
theorem dc_B_perform_1 : decode cd_B_perform 1 = .ok (.iconst 3, 1) := by decide +kernel
theorem dc_B_perform_2 : decode cd_B_perform 2 = .ok (.iand, 1) := by decide +kernel
theorem dc_B_perform_3 : decode cd_B_perform 3 = .ok (.istore 4, 2) := by decide +kernel
theorem dc_B_perform_5 : decode cd_B_perform 5 = .ok (.iload_n 1, 1) := by decide +kernel
theorem dc_B_perform_6 : decode cd_B_perform 6 = .ok (.lookupswitch 44 #[(0, 26), (1, 36)], 26) := by decide +kernel
theorem dc_B_perform_32 : decode cd_B_perform 32 = .ok (.aload_n 0, 1) := by decide +kernel
theorem dc_B_perform_33 : decode cd_B_perform 33 = .ok (.iload 4, 2) := by decide +kernel
theorem dc_B_perform_35 : decode cd_B_perform 35 = .ok (.iload_n 3, 1) := by decide +kernel
theorem dc_B_perform_36 : decode cd_B_perform 36 = .ok (.iconst 3, 1) := by decide +kernel
theorem dc_B_perform_37 : decode cd_B_perform 37 = .ok (.iand, 1) := by decide +kernel
theorem dc_B_perform_38 : decode cd_B_perform 38 = .ok (.invokevirtual 7, 3) := by decide +kernel
theorem dc_B_perform_41 : decode cd_B_perform 41 = .ok (.ireturn, 1) := by decide +kernel
theorem dc_B_perform_42 : decode cd_B_perform 42 = .ok (.aload_n 0, 1) := by decide +kernel
theorem dc_B_perform_43 : decode cd_B_perform 43 = .ok (.getfield 13, 3) := by decide +kernel
theorem dc_B_perform_46 : decode cd_B_perform 46 = .ok (.iload 4, 2) := by decide +kernel
theorem dc_B_perform_48 : decode cd_B_perform 48 = .ok (.iaload, 1) := by decide +kernel
theorem dc_B_perform_49 : decode cd_B_perform 49 = .ok (.ireturn, 1) := by decide +kernel
theorem dc_B_perform_50 : decode cd_B_perform 50 = .ok (.aload_n 0, 1) := by decide +kernel
theorem dc_B_perform_51 : decode cd_B_perform 51 = .ok (.getfield 13, 3) := by decide +kernel
theorem dc_B_perform_54 : decode cd_B_perform 54 = .ok (.iload 4, 2) := by decide +kernel
theorem dc_B_perform_56 : decode cd_B_perform 56 = .ok (.dup2, 1) := by decide +kernel
theorem dc_B_perform_57 : decode cd_B_perform 57 = .ok (.iaload, 1) := by decide +kernel
theorem dc_B_perform_58 : decode cd_B_perform 58 = .ok (.iload_n 3, 1) := by decide +kernel
theorem dc_B_perform_59 : decode cd_B_perform 59 = .ok (.iadd, 1) := by decide +kernel
theorem dc_B_perform_60 : decode cd_B_perform 60 = .ok (.iastore, 1) := by decide +kernel
theorem dc_B_perform_61 : decode cd_B_perform 61 = .ok (.aload_n 0, 1) := by decide +kernel
theorem dc_B_perform_62 : decode cd_B_perform 62 = .ok (.getfield 13, 3) := by decide +kernel
theorem dc_B_perform_65 : decode cd_B_perform 65 = .ok (.iload 4, 2) := by decide +kernel
theorem dc_B_perform_67 : decode cd_B_perform 67 = .ok (.iaload, 1) := by decide +kernel
theorem dc_B_perform_68 : decode cd_B_perform 68 = .ok (.ireturn, 1) := by decide +kernel
theorem dc_B_transfer_0 : decode cd_B_transfer 0 = .ok (.aload_n 0, 1) := by decide +kernel
theorem dc_B_transfer_1 : decode cd_B_transfer 1 = .ok (.getfield 13, 3) := by decide +kernel
theorem dc_B_transfer_4 : decode cd_B_transfer 4 = .ok (.iload_n 1, 1) := by decide +kernel
theorem dc_B_transfer_5 : decode cd_B_transfer 5 = .ok (.iaload, 1) := by decide +kernel
theorem dc_B_transfer_6 : decode cd_B_transfer 6 = .ok (.bipush 10, 2) := by decide +kernel
theorem dc_B_transfer_8 : decode cd_B_transfer 8 = .ok (.if_icmp .ge 5, 3) := by decide +kernel
theorem dc_B_transfer_11 : decode cd_B_transfer 11 = .ok (.iconst 0, 1) := by decide +kernel
theorem dc_B_transfer_12 : decode cd_B_transfer 12 = .ok (.ireturn, 1) := by decide +kernel
theorem dc_B_transfer_13 : decode cd_B_transfer 13 = .ok (.aload_n 0, 1) := by decide +kernel
theorem dc_B_transfer_14 : decode cd_B_transfer 14 = .ok (.getfield 13, 3) := by decide +kernel
theorem dc_B_transfer_17 : decode cd_B_transfer 17 = .ok (.iload_n 1, 1) := by decide +kernel
theorem dc_B_transfer_18 : decode cd_B_transfer 18 = .ok (.dup2, 1) := by decide +kernel
theorem dc_B_transfer_19 : decode cd_B_transfer 19 = .ok (.iaload, 1) := by decide +kernel
theorem dc_B_transfer_20 : decode cd_B_transfer 20 = .ok (.bipush 10, 2) := by decide +kernel
theorem dc_B_transfer_22 : decode cd_B_transfer 22 = .ok (.isub, 1) := by decide +kernel
theorem dc_B_transfer_23 : decode cd_B_transfer 23 = .ok (.iastore, 1) := by decide +kernel
theorem dc_B_transfer_24 : decode cd_B_transfer 24 = .ok (.aload_n 0, 1) := by decide +kernel
theorem dc_B_transfer_25 : decode cd_B_transfer 25 = .ok (.getfield 13, 3) := by decide +kernel
theorem dc_B_transfer_28 : decode cd_B_transfer 28 = .ok (.iload_n 2, 1) := by decide +kernel
theorem dc_B_transfer_29 : decode cd_B_transfer 29 = .ok (.dup2, 1) := by decide +kernel
theorem dc_B_transfer_30 : decode cd_B_transfer 30 = .ok (.iaload, 1) := by decide +kernel
theorem dc_B_transfer_31 : decode cd_B_transfer 31 = .ok (.bipush 10, 2) := by decide +kernel
theorem dc_B_transfer_33 : decode cd_B_transfer 33 = .ok (.iadd, 1) := by decide +kernel
theorem dc_B_transfer_34 : decode cd_B_transfer 34 = .ok (.iastore, 1) := by decide +kernel
theorem dc_B_transfer_35 : decode cd_B_transfer 35 = .ok (.iconst 1, 1) := by decide +kernel
theorem dc_B_transfer_36 : decode cd_B_transfer 36 = .ok (.ireturn, 1) := by decide +kernel
theorem dc_C_init_0 : decode cd_C_init 0 = .ok (.aload_n 0, 1) := by decide +kernel
theorem dc_C_init_1 : decode cd_C_init 1 = .ok (.invokespecial 3, 3) := by decide +kernel
theorem dc_C_init_4 : decode cd_C_init 4 = .ok (.aload_n 0, 1) := by decide +kernel
theorem dc_C_init_5 : decode cd_C_init 5 = .ok (.iconst (-1), 1) := by decide +kernel
theorem dc_C_init_6 : decode cd_C_init 6 = .ok (.putfield 9, 3) := by decide +kernel
theorem dc_C_init_9 : decode cd_C_init 9 = .ok (.aload_n 0, 1) := by decide +kernel
theorem dc_C_init_10 : decode cd_C_init 10 = .ok (.iconst (-1), 1) := by decide +kernel
theorem dc_C_init_11 : decode cd_C_init 11 = .ok (.putfield 15, 3) := by decide +kernel
theorem dc_C_init_14 : decode cd_C_init 14 = .ok (.aload_n 0, 1) := by decide +kernel
theorem dc_C_init_15 : decode cd_C_init 15 = .ok (.iload_n 1, 1) := by decide +kernel
theorem dc_C_init_16 : decode cd_C_init 16 = .ok (.putfield 18, 3) := by decide +kernel
theorem dc_C_init_19 : decode cd_C_init 19 = .ok (.aload_n 0, 1) := by decide +kernel
theorem dc_C_init_20 : decode cd_C_init 20 = .ok (.aload_n 2, 1) := by decide +kernel
theorem dc_C_init_21 : decode cd_C_init 21 = .ok (.putfield 21, 3) := by decide +kernel
theorem dc_C_init_24 : decode cd_C_init 24 = .ok (.aload_n 0, 1) := by decide +kernel
theorem dc_C_init_25 : decode cd_C_init 25 = .ok (.aload_n 2, 1) := by decide +kernel
theorem dc_C_init_26 : decode cd_C_init 26 = .ok (.putfield 25, 3) := by decide +kernel
theorem dc_C_init_29 : decode cd_C_init 29 = .ok (.aload_n 0, 1) := by decide +kernel
theorem dc_C_init_30 : decode cd_C_init 30 = .ok (.aload_n 2, 1) := by decide +kernel
theorem dc_C_init_31 : decode cd_C_init 31 = .ok (.putfield 28, 3) := by decide +kernel
theorem dc_C_init_34 : decode cd_C_init 34 = .ok (.aload_n 0, 1) := by decide +kernel
theorem dc_C_init_35 : decode cd_C_init 35 = .ok (.aload_n 2, 1) := by decide +kernel
theorem dc_C_init_36 : decode cd_C_init 36 = .ok (.putfield 31, 3) := by decide +kernel
theorem dc_C_init_39 : decode cd_C_init 39 = .ok (.return_, 1) := by decide +kernel
theorem dc_N_init_0 : decode cd_N_init 0 = .ok (.aload_n 0, 1) := by decide +kernel
theorem dc_N_init_1 : decode cd_N_init 1 = .ok (.invokespecial 3, 3) := by decide +kernel
theorem dc_N_init_4 : decode cd_N_init 4 = .ok (.aload_n 0, 1) := by decide +kernel
theorem dc_N_init_5 : decode cd_N_init 5 = .ok (.iconst (-1), 1) := by decide +kernel
theorem dc_N_init_6 : decode cd_N_init 6 = .ok (.putfield 9, 3) := by decide +kernel
theorem dc_N_init_9 : decode cd_N_init 9 = .ok (.aload_n 0, 1) := by decide +kernel
theorem dc_N_init_10 : decode cd_N_init 10 = .ok (.iconst (-1), 1) := by decide +kernel
theorem dc_N_init_11 : decode cd_N_init 11 = .ok (.putfield 15, 3) := by decide +kernel
theorem dc_N_init_14 : decode cd_N_init 14 = .ok (.aload_n 0, 1) := by decide +kernel
theorem dc_N_init_15 : decode cd_N_init 15 = .ok (.iconst (-1), 1) := by decide +kernel
theorem dc_N_init_16 : decode cd_N_init 16 = .ok (.putfield 18, 3) := by decide +kernel
theorem dc_N_init_19 : decode cd_N_init 19 = .ok (.aload_n 0, 1) := by decide +kernel
theorem dc_N_init_20 : decode cd_N_init 20 = .ok (.iconst (-1), 1) := by decide +kernel
theorem dc_N_init_21 : decode cd_N_init 21 = .ok (.putfield 21, 3) := by decide +kernel
theorem dc_N_init_24 : decode cd_N_init 24 = .ok (.return_, 1) := by decide +kernel
theorem dc_N_isOnLog_0 : decode cd_N_isOnLog 0 = .ok (.aload_n 0, 1) := by decide +kernel
theorem dc_N_isOnLog_1 : decode cd_N_isOnLog 1 = .ok (.getfield 24, 3) := by decide +kernel
theorem dc_N_isOnLog_4 : decode cd_N_isOnLog 4 = .ok (.ifCond .eq 14, 3) := by decide +kernel
theorem dc_N_isOnLog_7 : decode cd_N_isOnLog 7 = .ok (.aload_n 0, 1) := by decide +kernel
theorem dc_N_isOnLog_8 : decode cd_N_isOnLog 8 = .ok (.getfield 28, 3) := by decide +kernel
theorem dc_N_isOnLog_11 : decode cd_N_isOnLog 11 = .ok (.ifCond .le 7, 3) := by decide +kernel
theorem dc_N_isOnLog_14 : decode cd_N_isOnLog 14 = .ok (.iconst 1, 1) := by decide +kernel
theorem dc_N_isOnLog_15 : decode cd_N_isOnLog 15 = .ok (.goto 4, 3) := by decide +kernel
theorem dc_N_isOnLog_18 : decode cd_N_isOnLog 18 = .ok (.iconst 0, 1) := by decide +kernel
theorem dc_N_isOnLog_19 : decode cd_N_isOnLog 19 = .ok (.ireturn, 1) := by decide +kernel
theorem dc_N_take_0 : decode cd_N_take 0 = .ok (.aload_n 0, 1) := by decide +kernel
theorem dc_N_take_1 : decode cd_N_take 1 = .ok (.iconst 1, 1) := by decide +kernel
theorem dc_N_take_2 : decode cd_N_take 2 = .ok (.putfield 24, 3) := by decide +kernel
theorem dc_N_take_5 : decode cd_N_take 5 = .ok (.aload_n 0, 1) := by decide +kernel
theorem dc_N_take_6 : decode cd_N_take 6 = .ok (.aload_n 1, 1) := by decide +kernel
theorem dc_N_take_7 : decode cd_N_take 7 = .ok (.getfield 31, 3) := by decide +kernel
theorem dc_N_take_10 : decode cd_N_take 10 = .ok (.putfield 9, 3) := by decide +kernel
theorem dc_N_take_13 : decode cd_N_take 13 = .ok (.aload_n 0, 1) := by decide +kernel
theorem dc_N_take_14 : decode cd_N_take 14 = .ok (.aload_n 1, 1) := by decide +kernel
theorem dc_N_take_15 : decode cd_N_take 15 = .ok (.getfield 34, 3) := by decide +kernel
theorem dc_N_take_18 : decode cd_N_take 18 = .ok (.putfield 15, 3) := by decide +kernel
theorem dc_N_take_21 : decode cd_N_take 21 = .ok (.aload_n 0, 1) := by decide +kernel
theorem dc_N_take_22 : decode cd_N_take 22 = .ok (.aload_n 1, 1) := by decide +kernel
theorem dc_N_take_23 : decode cd_N_take 23 = .ok (.getfield 35, 3) := by decide +kernel
theorem dc_N_take_26 : decode cd_N_take 26 = .ok (.putfield 18, 3) := by decide +kernel
theorem dc_N_take_29 : decode cd_N_take 29 = .ok (.aload_n 0, 1) := by decide +kernel
theorem dc_N_take_30 : decode cd_N_take 30 = .ok (.aload_n 1, 1) := by decide +kernel
theorem dc_N_take_31 : decode cd_N_take 31 = .ok (.getfield 36, 3) := by decide +kernel
theorem dc_N_take_34 : decode cd_N_take 34 = .ok (.putfield 21, 3) := by decide +kernel
theorem dc_N_take_37 : decode cd_N_take 37 = .ok (.aload_n 0, 1) := by decide +kernel
theorem dc_N_take_38 : decode cd_N_take 38 = .ok (.iconst 0, 1) := by decide +kernel
theorem dc_N_take_39 : decode cd_N_take 39 = .ok (.putfield 28, 3) := by decide +kernel
theorem dc_N_take_42 : decode cd_N_take 42 = .ok (.aload_n 0, 1) := by decide +kernel
theorem dc_N_take_43 : decode cd_N_take 43 = .ok (.aconst_null, 1) := by decide +kernel
theorem dc_N_take_44 : decode cd_N_take 44 = .ok (.putfield 37, 3) := by decide +kernel
theorem dc_N_take_47 : decode cd_N_take 47 = .ok (.return_, 1) := by decide +kernel
theorem dc_N_part_0 : decode cd_N_part 0 = .ok (.iload_n 1, 1) := by decide +kernel
theorem dc_N_part_1 : decode cd_N_part 1 = .ok (.tableswitch 42 0 2 #[27, 32, 37], 27) := by decide +kernel
theorem dc_N_part_28 : decode cd_N_part 28 = .ok (.aload_n 0, 1) := by decide +kernel
theorem dc_N_part_29 : decode cd_N_part 29 = .ok (.getfield 9, 3) := by decide +kernel
theorem dc_N_part_32 : decode cd_N_part 32 = .ok (.ireturn, 1) := by decide +kernel
theorem dc_N_part_33 : decode cd_N_part 33 = .ok (.aload_n 0, 1) := by decide +kernel
theorem dc_N_part_34 : decode cd_N_part 34 = .ok (.getfield 15, 3) := by decide +kernel
theorem dc_N_part_37 : decode cd_N_part 37 = .ok (.ireturn, 1) := by decide +kernel
theorem dc_N_part_38 : decode cd_N_part 38 = .ok (.aload_n 0, 1) := by decide +kernel
theorem dc_N_part_39 : decode cd_N_part 39 = .ok (.getfield 18, 3) := by decide +kernel
theorem dc_N_part_42 : decode cd_N_part 42 = .ok (.ireturn, 1) := by decide +kernel
theorem dc_N_part_43 : decode cd_N_part 43 = .ok (.aload_n 0, 1) := by decide +kernel
theorem dc_N_part_44 : decode cd_N_part 44 = .ok (.getfield 21, 3) := by decide +kernel
theorem dc_N_part_47 : decode cd_N_part 47 = .ok (.ireturn, 1) := by decide +kernel
theorem dc_P_init_0 : decode cd_P_init 0 = .ok (.aload_n 0, 1) := by decide +kernel
theorem dc_P_init_1 : decode cd_P_init 1 = .ok (.invokespecial 1, 3) := by decide +kernel
theorem dc_P_init_4 : decode cd_P_init 4 = .ok (.aload_n 0, 1) := by decide +kernel
theorem dc_P_init_5 : decode cd_P_init 5 = .ok (.iload_n 1, 1) := by decide +kernel
theorem dc_P_init_6 : decode cd_P_init 6 = .ok (.newarray .int, 2) := by decide +kernel
theorem dc_P_init_8 : decode cd_P_init 8 = .ok (.putfield 7, 3) := by decide +kernel
theorem dc_P_init_11 : decode cd_P_init 11 = .ok (.aload_n 0, 1) := by decide +kernel
theorem dc_P_init_12 : decode cd_P_init 12 = .ok (.getfield 7, 3) := by decide +kernel
theorem dc_P_init_15 : decode cd_P_init 15 = .ok (.iload_n 2, 1) := by decide +kernel
theorem dc_P_init_16 : decode cd_P_init 16 = .ok (.invokestatic 13, 3) := by decide +kernel
theorem dc_P_init_19 : decode cd_P_init 19 = .ok (.return_, 1) := by decide +kernel
theorem dc_P_copyFrom_0 : decode cd_P_copyFrom 0 = .ok (.aload_n 1, 1) := by decide +kernel
theorem dc_P_copyFrom_1 : decode cd_P_copyFrom 1 = .ok (.getfield 7, 3) := by decide +kernel
theorem dc_P_copyFrom_4 : decode cd_P_copyFrom 4 = .ok (.iconst 0, 1) := by decide +kernel
theorem dc_P_copyFrom_5 : decode cd_P_copyFrom 5 = .ok (.aload_n 0, 1) := by decide +kernel
theorem dc_P_copyFrom_6 : decode cd_P_copyFrom 6 = .ok (.getfield 7, 3) := by decide +kernel
theorem dc_P_copyFrom_9 : decode cd_P_copyFrom 9 = .ok (.iconst 0, 1) := by decide +kernel
theorem dc_P_copyFrom_10 : decode cd_P_copyFrom 10 = .ok (.aload_n 1, 1) := by decide +kernel
theorem dc_P_copyFrom_11 : decode cd_P_copyFrom 11 = .ok (.getfield 7, 3) := by decide +kernel
theorem dc_P_copyFrom_14 : decode cd_P_copyFrom 14 = .ok (.arraylength, 1) := by decide +kernel
theorem dc_P_copyFrom_15 : decode cd_P_copyFrom 15 = .ok (.aload_n 0, 1) := by decide +kernel
theorem dc_P_copyFrom_16 : decode cd_P_copyFrom 16 = .ok (.getfield 7, 3) := by decide +kernel
theorem dc_P_copyFrom_19 : decode cd_P_copyFrom 19 = .ok (.arraylength, 1) := by decide +kernel
theorem dc_P_copyFrom_20 : decode cd_P_copyFrom 20 = .ok (.invokestatic 19, 3) := by decide +kernel
theorem dc_P_copyFrom_23 : decode cd_P_copyFrom 23 = .ok (.invokestatic 25, 3) := by decide +kernel
theorem dc_P_copyFrom_26 : decode cd_P_copyFrom 26 = .ok (.aload_n 0, 1) := by decide +kernel
theorem dc_P_copyFrom_27 : decode cd_P_copyFrom 27 = .ok (.aload_n 1, 1) := by decide +kernel
theorem dc_P_copyFrom_28 : decode cd_P_copyFrom 28 = .ok (.getfield 31, 3) := by decide +kernel
theorem dc_P_copyFrom_31 : decode cd_P_copyFrom 31 = .ok (.putfield 31, 3) := by decide +kernel
theorem dc_P_copyFrom_34 : decode cd_P_copyFrom 34 = .ok (.return_, 1) := by decide +kernel
theorem dc_Q_init_0 : decode cd_Q_init 0 = .ok (.aload_n 0, 1) := by decide +kernel
theorem dc_Q_init_1 : decode cd_Q_init 1 = .ok (.invokespecial 1, 3) := by decide +kernel
theorem dc_Q_init_4 : decode cd_Q_init 4 = .ok (.return_, 1) := by decide +kernel
theorem dc_Q_takeOut_0 : decode cd_Q_takeOut 0 = .ok (.aload_n 0, 1) := by decide +kernel
theorem dc_Q_takeOut_1 : decode cd_Q_takeOut 1 = .ok (.getfield 7, 3) := by decide +kernel
theorem dc_Q_takeOut_4 : decode cd_Q_takeOut 4 = .ok (.iconst 0, 1) := by decide +kernel
theorem dc_Q_takeOut_5 : decode cd_Q_takeOut 5 = .ok (.iaload, 1) := by decide +kernel
theorem dc_Q_takeOut_6 : decode cd_Q_takeOut 6 = .ok (.istore_n 1, 1) := by decide +kernel
theorem dc_Q_takeOut_7 : decode cd_Q_takeOut 7 = .ok (.iconst 1, 1) := by decide +kernel
theorem dc_Q_takeOut_8 : decode cd_Q_takeOut 8 = .ok (.istore_n 2, 1) := by decide +kernel
theorem dc_Q_takeOut_9 : decode cd_Q_takeOut 9 = .ok (.iload_n 2, 1) := by decide +kernel
theorem dc_Q_takeOut_10 : decode cd_Q_takeOut 10 = .ok (.aload_n 0, 1) := by decide +kernel
theorem dc_Q_takeOut_11 : decode cd_Q_takeOut 11 = .ok (.getfield 13, 3) := by decide +kernel
theorem dc_Q_takeOut_14 : decode cd_Q_takeOut 14 = .ok (.if_icmp .ge 23, 3) := by decide +kernel
theorem dc_Q_takeOut_17 : decode cd_Q_takeOut 17 = .ok (.aload_n 0, 1) := by decide +kernel
theorem dc_Q_takeOut_18 : decode cd_Q_takeOut 18 = .ok (.getfield 7, 3) := by decide +kernel
theorem dc_Q_takeOut_21 : decode cd_Q_takeOut 21 = .ok (.iload_n 2, 1) := by decide +kernel
theorem dc_Q_takeOut_22 : decode cd_Q_takeOut 22 = .ok (.iconst 1, 1) := by decide +kernel
theorem dc_Q_takeOut_23 : decode cd_Q_takeOut 23 = .ok (.isub, 1) := by decide +kernel
theorem dc_Q_takeOut_24 : decode cd_Q_takeOut 24 = .ok (.aload_n 0, 1) := by decide +kernel
theorem dc_Q_takeOut_25 : decode cd_Q_takeOut 25 = .ok (.getfield 7, 3) := by decide +kernel
theorem dc_Q_takeOut_28 : decode cd_Q_takeOut 28 = .ok (.iload_n 2, 1) := by decide +kernel
theorem dc_Q_takeOut_29 : decode cd_Q_takeOut 29 = .ok (.iaload, 1) := by decide +kernel
theorem dc_Q_takeOut_30 : decode cd_Q_takeOut 30 = .ok (.iastore, 1) := by decide +kernel
theorem dc_Q_takeOut_31 : decode cd_Q_takeOut 31 = .ok (.iinc 2 1, 3) := by decide +kernel
theorem dc_Q_takeOut_34 : decode cd_Q_takeOut 34 = .ok (.goto (-25), 3) := by decide +kernel
theorem dc_Q_takeOut_37 : decode cd_Q_takeOut 37 = .ok (.aload_n 0, 1) := by decide +kernel
theorem dc_Q_takeOut_38 : decode cd_Q_takeOut 38 = .ok (.dup, 1) := by decide +kernel
theorem dc_Q_takeOut_39 : decode cd_Q_takeOut 39 = .ok (.getfield 13, 3) := by decide +kernel
theorem dc_Q_takeOut_42 : decode cd_Q_takeOut 42 = .ok (.iconst 1, 1) := by decide +kernel
theorem dc_Q_takeOut_43 : decode cd_Q_takeOut 43 = .ok (.isub, 1) := by decide +kernel
theorem dc_Q_takeOut_44 : decode cd_Q_takeOut 44 = .ok (.putfield 13, 3) := by decide +kernel
theorem dc_Q_takeOut_47 : decode cd_Q_takeOut 47 = .ok (.iload_n 1, 1) := by decide +kernel
theorem dc_Q_takeOut_48 : decode cd_Q_takeOut 48 = .ok (.ireturn, 1) := by decide +kernel
theorem dc_S_init_0 : decode cd_S_init 0 = .ok (.aload_n 0, 1) := by decide +kernel
theorem dc_S_init_1 : decode cd_S_init 1 = .ok (.invokespecial 1, 3) := by decide +kernel
theorem dc_S_init_4 : decode cd_S_init 4 = .ok (.return_, 1) := by decide +kernel
theorem dc_S_takeOut_0 : decode cd_S_takeOut 0 = .ok (.aload_n 0, 1) := by decide +kernel
theorem dc_S_takeOut_1 : decode cd_S_takeOut 1 = .ok (.dup, 1) := by decide +kernel
theorem dc_S_takeOut_2 : decode cd_S_takeOut 2 = .ok (.getfield 7, 3) := by decide +kernel
theorem dc_S_takeOut_5 : decode cd_S_takeOut 5 = .ok (.iconst 1, 1) := by decide +kernel
theorem dc_S_takeOut_6 : decode cd_S_takeOut 6 = .ok (.isub, 1) := by decide +kernel
theorem dc_S_takeOut_7 : decode cd_S_takeOut 7 = .ok (.putfield 7, 3) := by decide +kernel
theorem dc_S_takeOut_10 : decode cd_S_takeOut 10 = .ok (.aload_n 0, 1) := by decide +kernel
theorem dc_S_takeOut_11 : decode cd_S_takeOut 11 = .ok (.getfield 13, 3) := by decide +kernel
theorem dc_S_takeOut_14 : decode cd_S_takeOut 14 = .ok (.aload_n 0, 1) := by decide +kernel
theorem dc_S_takeOut_15 : decode cd_S_takeOut 15 = .ok (.getfield 7, 3) := by decide +kernel
theorem dc_S_takeOut_18 : decode cd_S_takeOut 18 = .ok (.iaload, 1) := by decide +kernel
theorem dc_S_takeOut_19 : decode cd_S_takeOut 19 = .ok (.ireturn, 1) := by decide +kernel
theorem dc_T_init_0 : decode cd_T_init 0 = .ok (.aload_n 0, 1) := by decide +kernel
theorem dc_T_init_1 : decode cd_T_init 1 = .ok (.bipush 8, 2) := by decide +kernel
theorem dc_T_init_3 : decode cd_T_init 3 = .ok (.iconst 0, 1) := by decide +kernel
theorem dc_T_init_4 : decode cd_T_init 4 = .ok (.invokespecial 1, 3) := by decide +kernel
theorem dc_T_init_7 : decode cd_T_init 7 = .ok (.return_, 1) := by decide +kernel
theorem dc_T_perform_0 : decode cd_T_perform 0 = .ok (.iload_n 2, 1) := by decide +kernel
theorem dc_T_perform_1 : decode cd_T_perform 1 = .ok (.bipush 7, 2) := by decide +kernel
theorem dc_T_perform_3 : decode cd_T_perform 3 = .ok (.iand, 1) := by decide +kernel
theorem dc_T_perform_4 : decode cd_T_perform 4 = .ok (.istore 4, 2) := by decide +kernel
theorem dc_T_perform_6 : decode cd_T_perform 6 = .ok (.iload_n 1, 1) := by decide +kernel
theorem dc_T_perform_7 : decode cd_T_perform 7 = .ok (.lookupswitch 53 #[(0, 25), (1, 45)], 25) := by decide +kernel
theorem dc_T_perform_32 : decode cd_T_perform 32 = .ok (.aload_n 0, 1) := by decide +kernel
theorem dc_T_perform_33 : decode cd_T_perform 33 = .ok (.getfield 7, 3) := by decide +kernel
theorem dc_T_perform_36 : decode cd_T_perform 36 = .ok (.iload 4, 2) := by decide +kernel
theorem dc_T_perform_38 : decode cd_T_perform 38 = .ok (.iaload, 1) := by decide +kernel
theorem dc_T_perform_39 : decode cd_T_perform 39 = .ok (.istore 5, 2) := by decide +kernel
theorem dc_T_perform_41 : decode cd_T_perform 41 = .ok (.aload_n 0, 1) := by decide +kernel
theorem dc_T_perform_42 : decode cd_T_perform 42 = .ok (.getfield 7, 3) := by decide +kernel
theorem dc_T_perform_45 : decode cd_T_perform 45 = .ok (.iload 4, 2) := by decide +kernel
theorem dc_T_perform_47 : decode cd_T_perform 47 = .ok (.iload_n 3, 1) := by decide +kernel
theorem dc_T_perform_48 : decode cd_T_perform 48 = .ok (.iastore, 1) := by decide +kernel
theorem dc_T_perform_49 : decode cd_T_perform 49 = .ok (.iload 5, 2) := by decide +kernel
theorem dc_T_perform_51 : decode cd_T_perform 51 = .ok (.ireturn, 1) := by decide +kernel
theorem dc_T_perform_52 : decode cd_T_perform 52 = .ok (.aload_n 0, 1) := by decide +kernel
theorem dc_T_perform_53 : decode cd_T_perform 53 = .ok (.getfield 7, 3) := by decide +kernel
theorem dc_T_perform_56 : decode cd_T_perform 56 = .ok (.iload 4, 2) := by decide +kernel
theorem dc_T_perform_58 : decode cd_T_perform 58 = .ok (.iaload, 1) := by decide +kernel
theorem dc_T_perform_59 : decode cd_T_perform 59 = .ok (.ireturn, 1) := by decide +kernel
theorem dc_T_perform_60 : decode cd_T_perform 60 = .ok (.aload_n 0, 1) := by decide +kernel
theorem dc_T_perform_61 : decode cd_T_perform 61 = .ok (.invokevirtual 13, 3) := by decide +kernel
theorem dc_T_perform_64 : decode cd_T_perform 64 = .ok (.ireturn, 1) := by decide +kernel
theorem dc_T_sum_0 : decode cd_T_sum 0 = .ok (.iconst 0, 1) := by decide +kernel
theorem dc_T_sum_1 : decode cd_T_sum 1 = .ok (.istore_n 1, 1) := by decide +kernel
theorem dc_T_sum_2 : decode cd_T_sum 2 = .ok (.aload_n 0, 1) := by decide +kernel
theorem dc_T_sum_3 : decode cd_T_sum 3 = .ok (.getfield 7, 3) := by decide +kernel
theorem dc_T_sum_6 : decode cd_T_sum 6 = .ok (.astore_n 2, 1) := by decide +kernel
theorem dc_T_sum_7 : decode cd_T_sum 7 = .ok (.aload_n 2, 1) := by decide +kernel
theorem dc_T_sum_8 : decode cd_T_sum 8 = .ok (.arraylength, 1) := by decide +kernel
theorem dc_T_sum_9 : decode cd_T_sum 9 = .ok (.istore_n 3, 1) := by decide +kernel
theorem dc_T_sum_10 : decode cd_T_sum 10 = .ok (.iconst 0, 1) := by decide +kernel
theorem dc_T_sum_11 : decode cd_T_sum 11 = .ok (.istore 4, 2) := by decide +kernel
theorem dc_T_sum_13 : decode cd_T_sum 13 = .ok (.iload 4, 2) := by decide +kernel
theorem dc_T_sum_15 : decode cd_T_sum 15 = .ok (.iload_n 3, 1) := by decide +kernel
theorem dc_T_sum_16 : decode cd_T_sum 16 = .ok (.if_icmp .ge 20, 3) := by decide +kernel
theorem dc_T_sum_19 : decode cd_T_sum 19 = .ok (.aload_n 2, 1) := by decide +kernel
theorem dc_T_sum_20 : decode cd_T_sum 20 = .ok (.iload 4, 2) := by decide +kernel
theorem dc_T_sum_22 : decode cd_T_sum 22 = .ok (.iaload, 1) := by decide +kernel
theorem dc_T_sum_23 : decode cd_T_sum 23 = .ok (.istore 5, 2) := by decide +kernel
theorem dc_T_sum_25 : decode cd_T_sum 25 = .ok (.iload_n 1, 1) := by decide +kernel
theorem dc_T_sum_26 : decode cd_T_sum 26 = .ok (.iload 5, 2) := by decide +kernel
theorem dc_T_sum_28 : decode cd_T_sum 28 = .ok (.iadd, 1) := by decide +kernel
theorem dc_T_sum_29 : decode cd_T_sum 29 = .ok (.istore_n 1, 1) := by decide +kernel
theorem dc_T_sum_30 : decode cd_T_sum 30 = .ok (.iinc 4 1, 3) := by decide +kernel
theorem dc_T_sum_33 : decode cd_T_sum 33 = .ok (.goto (-20), 3) := by decide +kernel
theorem dc_T_sum_36 : decode cd_T_sum 36 = .ok (.iload_n 1, 1) := by decide +kernel
theorem dc_T_sum_37 : decode cd_T_sum 37 = .ok (.ireturn, 1) := by decide +kernel
theorem dc_J_floorMod_0 : decode cd_J_floorMod 0 = .ok (.iload_n 0, 1) := by decide +kernel
theorem dc_J_floorMod_1 : decode cd_J_floorMod 1 = .ok (.iload_n 1, 1) := by decide +kernel
theorem dc_J_floorMod_2 : decode cd_J_floorMod 2 = .ok (.irem, 1) := by decide +kernel
theorem dc_J_floorMod_3 : decode cd_J_floorMod 3 = .ok (.istore_n 2, 1) := by decide +kernel
theorem dc_J_floorMod_4 : decode cd_J_floorMod 4 = .ok (.iload_n 0, 1) := by decide +kernel
theorem dc_J_floorMod_5 : decode cd_J_floorMod 5 = .ok (.iload_n 1, 1) := by decide +kernel
theorem dc_J_floorMod_6 : decode cd_J_floorMod 6 = .ok (.ixor, 1) := by decide +kernel
theorem dc_J_floorMod_7 : decode cd_J_floorMod 7 = .ok (.ifCond .ge 11, 3) := by decide +kernel
theorem dc_J_floorMod_10 : decode cd_J_floorMod 10 = .ok (.iload_n 2, 1) := by decide +kernel
theorem dc_J_floorMod_11 : decode cd_J_floorMod 11 = .ok (.ifCond .eq 7, 3) := by decide +kernel
theorem dc_J_floorMod_14 : decode cd_J_floorMod 14 = .ok (.iload_n 2, 1) := by decide +kernel
theorem dc_J_floorMod_15 : decode cd_J_floorMod 15 = .ok (.iload_n 1, 1) := by decide +kernel
theorem dc_J_floorMod_16 : decode cd_J_floorMod 16 = .ok (.iadd, 1) := by decide +kernel
theorem dc_J_floorMod_17 : decode cd_J_floorMod 17 = .ok (.ireturn, 1) := by decide +kernel
theorem dc_J_floorMod_18 : decode cd_J_floorMod 18 = .ok (.iload_n 2, 1) := by decide +kernel
theorem dc_J_floorMod_19 : decode cd_J_floorMod 19 = .ok (.ireturn, 1) := by decide +kernel
theorem dc_J_max_0 : decode cd_J_max 0 = .ok (.iload_n 0, 1) := by decide +kernel
theorem dc_J_max_1 : decode cd_J_max 1 = .ok (.iload_n 1, 1) := by decide +kernel
theorem dc_J_max_2 : decode cd_J_max 2 = .ok (.if_icmp .lt 7, 3) := by decide +kernel
theorem dc_J_max_5 : decode cd_J_max 5 = .ok (.iload_n 0, 1) := by decide +kernel
theorem dc_J_max_6 : decode cd_J_max 6 = .ok (.goto 4, 3) := by decide +kernel
theorem dc_J_max_9 : decode cd_J_max 9 = .ok (.iload_n 1, 1) := by decide +kernel
theorem dc_J_max_10 : decode cd_J_max 10 = .ok (.ireturn, 1) := by decide +kernel
theorem dc_J_min_0 : decode cd_J_min 0 = .ok (.iload_n 0, 1) := by decide +kernel
theorem dc_J_min_1 : decode cd_J_min 1 = .ok (.iload_n 1, 1) := by decide +kernel
theorem dc_J_min_2 : decode cd_J_min 2 = .ok (.if_icmp .gt 7, 3) := by decide +kernel
theorem dc_J_min_5 : decode cd_J_min 5 = .ok (.iload_n 0, 1) := by decide +kernel
theorem dc_J_min_6 : decode cd_J_min 6 = .ok (.goto 4, 3) := by decide +kernel
theorem dc_J_min_9 : decode cd_J_min 9 = .ok (.iload_n 1, 1) := by decide +kernel
theorem dc_J_min_10 : decode cd_J_min 10 = .ok (.ireturn, 1) := by decide +kernel
theorem dc_A_fill_0 : decode cd_A_fill 0 = .ok (.iconst 0, 1) := by decide +kernel
theorem dc_A_fill_1 : decode cd_A_fill 1 = .ok (.istore_n 2, 1) := by decide +kernel
theorem dc_A_fill_2 : decode cd_A_fill 2 = .ok (.aload_n 0, 1) := by decide +kernel
theorem dc_A_fill_3 : decode cd_A_fill 3 = .ok (.arraylength, 1) := by decide +kernel
theorem dc_A_fill_4 : decode cd_A_fill 4 = .ok (.istore_n 3, 1) := by decide +kernel
theorem dc_A_fill_5 : decode cd_A_fill 5 = .ok (.iload_n 2, 1) := by decide +kernel
theorem dc_A_fill_6 : decode cd_A_fill 6 = .ok (.iload_n 3, 1) := by decide +kernel
theorem dc_A_fill_7 : decode cd_A_fill 7 = .ok (.if_icmp .ge 13, 3) := by decide +kernel
theorem dc_A_fill_10 : decode cd_A_fill 10 = .ok (.aload_n 0, 1) := by decide +kernel
theorem dc_A_fill_11 : decode cd_A_fill 11 = .ok (.iload_n 2, 1) := by decide +kernel
theorem dc_A_fill_12 : decode cd_A_fill 12 = .ok (.iload_n 1, 1) := by decide +kernel
theorem dc_A_fill_13 : decode cd_A_fill 13 = .ok (.iastore, 1) := by decide +kernel
theorem dc_A_fill_14 : decode cd_A_fill 14 = .ok (.iinc 2 1, 3) := by decide +kernel
theorem dc_A_fill_17 : decode cd_A_fill 17 = .ok (.goto (-12), 3) := by decide +kernel
theorem dc_A_fill_20 : decode cd_A_fill 20 = .ok (.return_, 1) := by decide +kernel
end DEC_01y
end
section
section DEC_01z
theorem dc_L_cell_0 : decode cd_L_cell 0 = .ok (.iload_n 1, 1) := by decide +kernel
theorem dc_L_cell_1 : decode cd_L_cell 1 = .ok (.aload_n 0, 1) := by decide +kernel
theorem dc_L_cell_2 : decode cd_L_cell 2 = .ok (.arraylength, 1) := by decide +kernel
theorem dc_L_cell_3 : decode cd_L_cell 3 = .ok (.if_icmp .ge 9, 3) := by decide +kernel
theorem dc_L_cell_6 : decode cd_L_cell 6 = .ok (.aload_n 0, 1) := by decide +kernel
theorem dc_L_cell_7 : decode cd_L_cell 7 = .ok (.iload_n 1, 1) := by decide +kernel
theorem dc_L_cell_8 : decode cd_L_cell 8 = .ok (.iaload, 1) := by decide +kernel
theorem dc_L_cell_9 : decode cd_L_cell 9 = .ok (.goto 4, 3) := by decide +kernel
theorem dc_L_cell_12 : decode cd_L_cell 12 = .ok (.iconst 0, 1) := by decide +kernel
theorem dc_L_cell_13 : decode cd_L_cell 13 = .ok (.ireturn, 1) := by decide +kernel
theorem dc_L_call_0 : decode cd_L_call 0 = .ok (.aload_n 0, 1) := by decide +kernel
theorem dc_L_call_1 : decode cd_L_call 1 = .ok (.iload_n 1, 1) := by decide +kernel
theorem dc_L_call_2 : decode cd_L_call 2 = .ok (.iload_n 2, 1) := by decide +kernel
theorem dc_L_call_3 : decode cd_L_call 3 = .ok (.iload_n 3, 1) := by decide +kernel
theorem dc_L_call_4 : decode cd_L_call 4 = .ok (.iload 4, 2) := by decide +kernel
theorem dc_L_call_6 : decode cd_L_call 6 = .ok (.invokevirtual 7, 3) := by decide +kernel
theorem dc_L_call_9 : decode cd_L_call 9 = .ok (.goto 15, 3) := by decide +kernel
theorem dc_L_call_12 : decode cd_L_call 12 = .ok (.astore 5, 2) := by decide +kernel
theorem dc_L_call_14 : decode cd_L_call 14 = .ok (.iconst 1, 1) := by decide +kernel
theorem dc_L_call_15 : decode cd_L_call 15 = .ok (.ireturn, 1) := by decide +kernel
theorem dc_L_call_16 : decode cd_L_call 16 = .ok (.astore 5, 2) := by decide +kernel
theorem dc_L_call_18 : decode cd_L_call 18 = .ok (.iconst 2, 1) := by decide +kernel
theorem dc_L_call_19 : decode cd_L_call 19 = .ok (.ireturn, 1) := by decide +kernel
theorem dc_L_call_20 : decode cd_L_call 20 = .ok (.astore 5, 2) := by decide +kernel
theorem dc_L_call_22 : decode cd_L_call 22 = .ok (.iconst 3, 1) := by decide +kernel
theorem dc_L_call_23 : decode cd_L_call 23 = .ok (.ireturn, 1) := by decide +kernel
theorem dc_L_call_24 : decode cd_L_call 24 = .ok (.iconst 0, 1) := by decide +kernel
theorem dc_L_call_25 : decode cd_L_call 25 = .ok (.ireturn, 1) := by decide +kernel
theorem dc_L_step_0 : decode cd_L_step 0 = .ok (.aload_n 2, 1) := by decide +kernel
theorem dc_L_step_1 : decode cd_L_step 1 = .ok (.iconst 0, 1) := by decide +kernel
theorem dc_L_step_2 : decode cd_L_step 2 = .ok (.aload_n 0, 1) := by decide +kernel
theorem dc_L_step_3 : decode cd_L_step 3 = .ok (.iload_n 1, 1) := by decide +kernel
theorem dc_L_step_4 : decode cd_L_step 4 = .ok (.invokevirtual 19, 3) := by decide +kernel
theorem dc_L_step_7 : decode cd_L_step 7 = .ok (.i2l, 1) := by decide +kernel
theorem dc_L_step_8 : decode cd_L_step 8 = .ok (.lastore, 1) := by decide +kernel
theorem dc_L_step_9 : decode cd_L_step 9 = .ok (.goto 6, 3) := by decide +kernel
theorem dc_L_step_12 : decode cd_L_step 12 = .ok (.astore_n 3, 1) := by decide +kernel
theorem dc_L_step_13 : decode cd_L_step 13 = .ok (.iconst 1, 1) := by decide +kernel
theorem dc_L_step_14 : decode cd_L_step 14 = .ok (.ireturn, 1) := by decide +kernel
theorem dc_L_step_15 : decode cd_L_step 15 = .ok (.iconst 0, 1) := by decide +kernel
theorem dc_L_step_16 : decode cd_L_step 16 = .ok (.ireturn, 1) := by decide +kernel
theorem dc_L_run_0 : decode cd_L_run 0 = .ok (.aload_n 3, 1) := by decide +kernel
theorem dc_L_run_1 : decode cd_L_run 1 = .ok (.iconst 0, 1) := by decide +kernel
theorem dc_L_run_2 : decode cd_L_run 2 = .ok (.aload_n 0, 1) := by decide +kernel
theorem dc_L_run_3 : decode cd_L_run 3 = .ok (.iload_n 1, 1) := by decide +kernel
theorem dc_L_run_4 : decode cd_L_run 4 = .ok (.iload_n 2, 1) := by decide +kernel
theorem dc_L_run_5 : decode cd_L_run 5 = .ok (.invokevirtual 23, 3) := by decide +kernel
theorem dc_L_run_8 : decode cd_L_run 8 = .ok (.i2l, 1) := by decide +kernel
theorem dc_L_run_9 : decode cd_L_run 9 = .ok (.lastore, 1) := by decide +kernel
theorem dc_L_run_10 : decode cd_L_run 10 = .ok (.goto 7, 3) := by decide +kernel
theorem dc_L_run_13 : decode cd_L_run 13 = .ok (.astore 4, 2) := by decide +kernel
theorem dc_L_run_15 : decode cd_L_run 15 = .ok (.iconst 1, 1) := by decide +kernel
theorem dc_L_run_16 : decode cd_L_run 16 = .ok (.ireturn, 1) := by decide +kernel
theorem dc_L_run_17 : decode cd_L_run 17 = .ok (.iconst 0, 1) := by decide +kernel
theorem dc_L_run_18 : decode cd_L_run 18 = .ok (.ireturn, 1) := by decide +kernel
theorem dc_L_done_0 : decode cd_L_done 0 = .ok (.aload_n 2, 1) := by decide +kernel
theorem dc_L_done_1 : decode cd_L_done 1 = .ok (.iconst 0, 1) := by decide +kernel
theorem dc_L_done_2 : decode cd_L_done 2 = .ok (.aload_n 0, 1) := by decide +kernel
theorem dc_L_done_3 : decode cd_L_done 3 = .ok (.iload_n 1, 1) := by decide +kernel
theorem dc_L_done_4 : decode cd_L_done 4 = .ok (.invokevirtual 27, 3) := by decide +kernel
theorem dc_L_done_7 : decode cd_L_done 7 = .ok (.i2l, 1) := by decide +kernel
theorem dc_L_done_8 : decode cd_L_done 8 = .ok (.lastore, 1) := by decide +kernel
theorem dc_L_done_9 : decode cd_L_done 9 = .ok (.goto 6, 3) := by decide +kernel
theorem dc_L_done_12 : decode cd_L_done 12 = .ok (.astore_n 3, 1) := by decide +kernel
theorem dc_L_done_13 : decode cd_L_done 13 = .ok (.iconst 1, 1) := by decide +kernel
theorem dc_L_done_14 : decode cd_L_done 14 = .ok (.ireturn, 1) := by decide +kernel
theorem dc_L_done_15 : decode cd_L_done 15 = .ok (.iconst 0, 1) := by decide +kernel
theorem dc_L_done_16 : decode cd_L_done 16 = .ok (.ireturn, 1) := by decide +kernel
theorem dc_L_answer_0 : decode cd_L_answer 0 = .ok (.aload_n 2, 1) := by decide +kernel
theorem dc_L_answer_1 : decode cd_L_answer 1 = .ok (.iconst 0, 1) := by decide +kernel
theorem dc_L_answer_2 : decode cd_L_answer 2 = .ok (.aload_n 0, 1) := by decide +kernel
theorem dc_L_answer_3 : decode cd_L_answer 3 = .ok (.iload_n 1, 1) := by decide +kernel
theorem dc_L_answer_4 : decode cd_L_answer 4 = .ok (.invokevirtual 30, 3) := by decide +kernel
theorem dc_L_answer_7 : decode cd_L_answer 7 = .ok (.i2l, 1) := by decide +kernel
theorem dc_L_answer_8 : decode cd_L_answer 8 = .ok (.lastore, 1) := by decide +kernel
theorem dc_L_answer_9 : decode cd_L_answer 9 = .ok (.goto 9, 3) := by decide +kernel
theorem dc_L_answer_12 : decode cd_L_answer 12 = .ok (.astore_n 3, 1) := by decide +kernel
theorem dc_L_answer_13 : decode cd_L_answer 13 = .ok (.iconst 1, 1) := by decide +kernel
theorem dc_L_answer_14 : decode cd_L_answer 14 = .ok (.ireturn, 1) := by decide +kernel
theorem dc_L_answer_15 : decode cd_L_answer 15 = .ok (.astore_n 3, 1) := by decide +kernel
theorem dc_L_answer_16 : decode cd_L_answer 16 = .ok (.iconst 2, 1) := by decide +kernel
theorem dc_L_answer_17 : decode cd_L_answer 17 = .ok (.ireturn, 1) := by decide +kernel
theorem dc_L_answer_18 : decode cd_L_answer 18 = .ok (.iconst 0, 1) := by decide +kernel
theorem dc_L_answer_19 : decode cd_L_answer 19 = .ok (.ireturn, 1) := by decide +kernel
theorem dc_L_placeOf_0 : decode cd_L_placeOf 0 = .ok (.aload_n 2, 1) := by decide +kernel
theorem dc_L_placeOf_1 : decode cd_L_placeOf 1 = .ok (.iconst 0, 1) := by decide +kernel
theorem dc_L_placeOf_2 : decode cd_L_placeOf 2 = .ok (.aload_n 0, 1) := by decide +kernel
theorem dc_L_placeOf_3 : decode cd_L_placeOf 3 = .ok (.iload_n 1, 1) := by decide +kernel
theorem dc_L_placeOf_4 : decode cd_L_placeOf 4 = .ok (.invokevirtual 33, 3) := by decide +kernel
theorem dc_L_placeOf_7 : decode cd_L_placeOf 7 = .ok (.i2l, 1) := by decide +kernel
theorem dc_L_placeOf_8 : decode cd_L_placeOf 8 = .ok (.lastore, 1) := by decide +kernel
theorem dc_L_placeOf_9 : decode cd_L_placeOf 9 = .ok (.goto 6, 3) := by decide +kernel
theorem dc_L_placeOf_12 : decode cd_L_placeOf 12 = .ok (.astore_n 3, 1) := by decide +kernel
theorem dc_L_placeOf_13 : decode cd_L_placeOf 13 = .ok (.iconst 1, 1) := by decide +kernel
theorem dc_L_placeOf_14 : decode cd_L_placeOf 14 = .ok (.ireturn, 1) := by decide +kernel
theorem dc_L_placeOf_15 : decode cd_L_placeOf 15 = .ok (.iconst 0, 1) := by decide +kernel
theorem dc_L_placeOf_16 : decode cd_L_placeOf 16 = .ok (.ireturn, 1) := by decide +kernel
theorem dc_L_node_0 : decode cd_L_node 0 = .ok (.aload_n 3, 1) := by decide +kernel
theorem dc_L_node_1 : decode cd_L_node 1 = .ok (.iconst 0, 1) := by decide +kernel
theorem dc_L_node_2 : decode cd_L_node 2 = .ok (.aload_n 0, 1) := by decide +kernel
theorem dc_L_node_3 : decode cd_L_node 3 = .ok (.iload_n 1, 1) := by decide +kernel
theorem dc_L_node_4 : decode cd_L_node 4 = .ok (.iload_n 2, 1) := by decide +kernel
theorem dc_L_node_5 : decode cd_L_node 5 = .ok (.invokevirtual 36, 3) := by decide +kernel
theorem dc_L_node_8 : decode cd_L_node 8 = .ok (.i2l, 1) := by decide +kernel
theorem dc_L_node_9 : decode cd_L_node 9 = .ok (.lastore, 1) := by decide +kernel
theorem dc_L_node_10 : decode cd_L_node 10 = .ok (.goto 11, 3) := by decide +kernel
theorem dc_L_node_13 : decode cd_L_node 13 = .ok (.astore 4, 2) := by decide +kernel
theorem dc_L_node_15 : decode cd_L_node 15 = .ok (.iconst 1, 1) := by decide +kernel
theorem dc_L_node_16 : decode cd_L_node 16 = .ok (.ireturn, 1) := by decide +kernel
theorem dc_L_node_17 : decode cd_L_node 17 = .ok (.astore 4, 2) := by decide +kernel
theorem dc_L_node_19 : decode cd_L_node 19 = .ok (.iconst 2, 1) := by decide +kernel
theorem dc_L_node_20 : decode cd_L_node 20 = .ok (.ireturn, 1) := by decide +kernel
theorem dc_L_node_21 : decode cd_L_node 21 = .ok (.iconst 0, 1) := by decide +kernel
theorem dc_L_node_22 : decode cd_L_node 22 = .ok (.ireturn, 1) := by decide +kernel
theorem dc_L_stage_0 : decode cd_L_stage 0 = .ok (.aload_n 2, 1) := by decide +kernel
theorem dc_L_stage_1 : decode cd_L_stage 1 = .ok (.iconst 0, 1) := by decide +kernel
theorem dc_L_stage_2 : decode cd_L_stage 2 = .ok (.aload_n 0, 1) := by decide +kernel
theorem dc_L_stage_3 : decode cd_L_stage 3 = .ok (.iload_n 1, 1) := by decide +kernel
theorem dc_L_stage_4 : decode cd_L_stage 4 = .ok (.invokevirtual 41, 3) := by decide +kernel
theorem dc_L_stage_7 : decode cd_L_stage 7 = .ok (.i2l, 1) := by decide +kernel
theorem dc_L_stage_8 : decode cd_L_stage 8 = .ok (.lastore, 1) := by decide +kernel
theorem dc_L_stage_9 : decode cd_L_stage 9 = .ok (.goto 6, 3) := by decide +kernel
theorem dc_L_stage_12 : decode cd_L_stage 12 = .ok (.astore_n 3, 1) := by decide +kernel
theorem dc_L_stage_13 : decode cd_L_stage 13 = .ok (.iconst 1, 1) := by decide +kernel
theorem dc_L_stage_14 : decode cd_L_stage 14 = .ok (.ireturn, 1) := by decide +kernel
theorem dc_L_stage_15 : decode cd_L_stage 15 = .ok (.iconst 0, 1) := by decide +kernel
theorem dc_L_stage_16 : decode cd_L_stage 16 = .ok (.ireturn, 1) := by decide +kernel
theorem dc_L_head_0 : decode cd_L_head 0 = .ok (.aload_n 2, 1) := by decide +kernel
theorem dc_L_head_1 : decode cd_L_head 1 = .ok (.iconst 0, 1) := by decide +kernel
theorem dc_L_head_2 : decode cd_L_head 2 = .ok (.aload_n 0, 1) := by decide +kernel
theorem dc_L_head_3 : decode cd_L_head 3 = .ok (.iload_n 1, 1) := by decide +kernel
theorem dc_L_head_4 : decode cd_L_head 4 = .ok (.invokevirtual 44, 3) := by decide +kernel
theorem dc_L_head_7 : decode cd_L_head 7 = .ok (.i2l, 1) := by decide +kernel
theorem dc_L_head_8 : decode cd_L_head 8 = .ok (.lastore, 1) := by decide +kernel
theorem dc_L_head_9 : decode cd_L_head 9 = .ok (.goto 6, 3) := by decide +kernel
theorem dc_L_head_12 : decode cd_L_head 12 = .ok (.astore_n 3, 1) := by decide +kernel
theorem dc_L_head_13 : decode cd_L_head 13 = .ok (.iconst 1, 1) := by decide +kernel
theorem dc_L_head_14 : decode cd_L_head 14 = .ok (.ireturn, 1) := by decide +kernel
theorem dc_L_head_15 : decode cd_L_head 15 = .ok (.iconst 0, 1) := by decide +kernel
theorem dc_L_head_16 : decode cd_L_head 16 = .ok (.ireturn, 1) := by decide +kernel
theorem dc_L_peek_0 : decode cd_L_peek 0 = .ok (.aload 4, 2) := by decide +kernel
theorem dc_L_peek_2 : decode cd_L_peek 2 = .ok (.iconst 0, 1) := by decide +kernel
theorem dc_L_peek_3 : decode cd_L_peek 3 = .ok (.aload_n 0, 1) := by decide +kernel
theorem dc_L_peek_4 : decode cd_L_peek 4 = .ok (.iload_n 1, 1) := by decide +kernel
theorem dc_L_peek_5 : decode cd_L_peek 5 = .ok (.iload_n 2, 1) := by decide +kernel
theorem dc_L_peek_6 : decode cd_L_peek 6 = .ok (.iload_n 3, 1) := by decide +kernel
theorem dc_L_peek_7 : decode cd_L_peek 7 = .ok (.invokevirtual 47, 3) := by decide +kernel
theorem dc_L_peek_10 : decode cd_L_peek 10 = .ok (.i2l, 1) := by decide +kernel
theorem dc_L_peek_11 : decode cd_L_peek 11 = .ok (.lastore, 1) := by decide +kernel
theorem dc_L_peek_12 : decode cd_L_peek 12 = .ok (.goto 7, 3) := by decide +kernel
theorem dc_L_peek_15 : decode cd_L_peek 15 = .ok (.astore 5, 2) := by decide +kernel
theorem dc_L_peek_17 : decode cd_L_peek 17 = .ok (.iconst 1, 1) := by decide +kernel
theorem dc_L_peek_18 : decode cd_L_peek 18 = .ok (.ireturn, 1) := by decide +kernel
theorem dc_L_peek_19 : decode cd_L_peek 19 = .ok (.iconst 0, 1) := by decide +kernel
theorem dc_L_peek_20 : decode cd_L_peek 20 = .ok (.ireturn, 1) := by decide +kernel
theorem dc_L_plain_0 : decode cd_L_plain 0 = .ok (.aload 4, 2) := by decide +kernel
theorem dc_L_plain_2 : decode cd_L_plain 2 = .ok (.iconst 0, 1) := by decide +kernel
theorem dc_L_plain_3 : decode cd_L_plain 3 = .ok (.aload_n 0, 1) := by decide +kernel
theorem dc_L_plain_4 : decode cd_L_plain 4 = .ok (.iload_n 1, 1) := by decide +kernel
theorem dc_L_plain_5 : decode cd_L_plain 5 = .ok (.iload_n 2, 1) := by decide +kernel
theorem dc_L_plain_6 : decode cd_L_plain 6 = .ok (.iload_n 3, 1) := by decide +kernel
theorem dc_L_plain_7 : decode cd_L_plain 7 = .ok (.invokevirtual 51, 3) := by decide +kernel
theorem dc_L_plain_10 : decode cd_L_plain 10 = .ok (.i2l, 1) := by decide +kernel
theorem dc_L_plain_11 : decode cd_L_plain 11 = .ok (.lastore, 1) := by decide +kernel
theorem dc_L_plain_12 : decode cd_L_plain 12 = .ok (.goto 7, 3) := by decide +kernel
theorem dc_L_plain_15 : decode cd_L_plain 15 = .ok (.astore 5, 2) := by decide +kernel
theorem dc_L_plain_17 : decode cd_L_plain 17 = .ok (.iconst 1, 1) := by decide +kernel
theorem dc_L_plain_18 : decode cd_L_plain 18 = .ok (.ireturn, 1) := by decide +kernel
theorem dc_L_plain_19 : decode cd_L_plain 19 = .ok (.iconst 0, 1) := by decide +kernel
theorem dc_L_plain_20 : decode cd_L_plain 20 = .ok (.ireturn, 1) := by decide +kernel
end DEC_01z
end
section
section GO_A
/-- the value of a local, by its number -/
def lk_ : List (Nat × Value) → Nat → Option Value
  | [], _ => none
  | q :: t, i => bif Nat.beq q.1 i then some q.2 else lk_ t i
def rm_ : List (Nat × Value) → Nat → List (Nat × Value)
  | [], _ => []
  | q :: t, i => bif Nat.beq q.1 i then rm_ t i else q :: rm_ t i
def sv_ (L : List (Nat × Value)) (i : Nat) (v : Value) : List (Nat × Value) := (i, v) :: rm_ L i
/-- the locals: those listed, each of one slot -/
def lh_ (ls : Array Slot) (nL : Nat) (L : List (Nat × Value)) : Prop := lv_has ls nL L ∧ ∀ q ∈ L, q.2.category = 1
theorem lk_mem {L : List (Nat × Value)} {i : Nat} {v : Value} (h : lk_ L i = some v) : (i, v) ∈ L := by
  induction L with
  | nil => cases h
  | cons q t ih =>
    unfold lk_ at h
    cases hb : Nat.beq q.1 i with
    | true =>
      rw [hb] at h
      have h1 : q.2 = v := Option.some.inj h
      have h2 : q.1 = i := Nat.eq_of_beq_eq_true hb
      rw [← h1, ← h2]
      exact List.mem_cons_self
    | false =>
      rw [hb] at h
      exact List.mem_cons_of_mem _ (ih h)
theorem rm_mem {L : List (Nat × Value)} {i : Nat} {q : Nat × Value} (h : q ∈ rm_ L i) : q ∈ L ∧ q.1 ≠ i := by
  induction L with
  | nil => cases h
  | cons x t ih =>
    unfold rm_ at h
    cases hb : Nat.beq x.1 i with
    | true =>
      rw [hb] at h
      obtain ⟨h1, h2⟩ := ih h
      exact ⟨List.mem_cons_of_mem _ h1, h2⟩
    | false =>
      rw [hb] at h
      have h3 : q ∈ x :: rm_ t i := h
      rcases List.mem_cons.mp h3 with rfl | h4
      · exact ⟨List.mem_cons_self, Nat.ne_of_beq_eq_false hb⟩
      · obtain ⟨h1, h2⟩ := ih h4
        exact ⟨List.mem_cons_of_mem _ h1, h2⟩
theorem lh_get {ls : Array Slot} {nL : Nat} {L : List (Nat × Value)} {i : Nat} {v : Value} (h : lh_ ls nL L) (hk : lk_ L i = some v) : ls[i]? = some (.val v) := h.1.2.2 (i, v) (lk_mem hk)
theorem lh_set {ls' : Array Slot} {nL : Nat} {L : List (Nat × Value)} {i : Nat} {v : Value} (hv : v.category = 1) (hL : ∀ q ∈ L, q.2.category = 1) (h : lv_has ls' nL ((i, v) :: L.filter (fun q => !(q.1 == i) && !(q.1 + 1 == i && q.2.category == 2)))) : lh_ ls' nL (sv_ L i v) := by
  refine ⟨⟨h.1, h.2.1, fun q hq => h.2.2 q ?_⟩, fun q hq => ?_⟩
  · rcases List.mem_cons.mp hq with rfl | hq
    · exact List.mem_cons_self
    · obtain ⟨h1, h2⟩ := rm_mem hq
      refine List.mem_cons_of_mem _ (List.mem_filter.mpr ⟨h1, ?_⟩)
      have h3 := hL q h1
      simp [h2, h3]
  · rcases List.mem_cons.mp hq with rfl | hq
    · exact hv
    · exact hL q (rm_mem hq).1
theorem lh_sub {ls : Array Slot} {nL : Nat} {L L' : List (Nat × Value)} (h : lh_ ls nL L) (hs : L'.map (fun q => lk_ L q.1) = L'.map (fun q => some q.2)) : lh_ ls nL L' := by
  have key : ∀ q ∈ L', q ∈ L := by
    intro q hq
    obtain ⟨k, hk⟩ := List.getElem?_of_mem hq
    have h1 : (L'.map (fun q => lk_ L q.1))[k]? = (L'.map (fun q => some q.2))[k]? := by rw [hs]
    rw [List.getElem?_map, List.getElem?_map, hk] at h1
    exact lk_mem (Option.some.inj h1)
  exact ⟨⟨h.1.1, h.1.2.1, fun q hq => h.1.2.2 q (key q hq)⟩, fun q hq => h.2 q (key q hq)⟩
theorem lk_at {L : List (Nat × Value)} {i : Nat} {v : Value} (h : lk_ L i = some v) : ∃ k : Nat, L[k]? = some (i, v) := List.getElem?_of_mem (lk_mem h)
/-- a world of N places: place i lies at ad i and holds g i -/
def wl_ (ad : Nat → Nat) (N : Nat) (g : Nat → va_E) : va_W := (List.range N).map (fun i => (ad i, g i))
theorem wl_at {ad : Nat → Nat} {N : Nat} {g : Nat → va_E} {i : Nat} (h : i < N) : (wl_ ad N g)[i]? = some (ad i, g i) := by
  unfold wl_
  rw [List.getElem?_map, List.getElem?_range h]
  rfl
theorem wl_none {ad : Nat → Nat} {N : Nat} {g : Nat → va_E} {i : Nat} (h : N ≤ i) : (wl_ ad N g)[i]? = none := by
  unfold wl_
  rw [List.getElem?_eq_none]
  rw [List.length_map, List.length_range]
  exact h
theorem wl_set {ad : Nat → Nat} {N : Nat} {g : Nat → va_E} {i : Nat} (x : va_E) : (wl_ ad N g).set i (ad i, x) = wl_ ad N (va_up g i x) := by
  apply List.ext_getElem?
  intro j
  rw [List.getElem?_set]
  by_cases hj : i = j
  · subst hj
    rw [if_pos rfl]
    by_cases h : i < N
    · rw [if_pos (by unfold wl_; rw [List.length_map, List.length_range]; exact h), wl_at h, va_up_self]
    · rw [if_neg (by unfold wl_; rw [List.length_map, List.length_range]; exact h), wl_none (Nat.not_lt.mp h)]
  · rw [if_neg hj]
    by_cases h : j < N
    · rw [wl_at h, wl_at h, va_up_ne _ _ (fun q => hj q.symm)]
    · rw [wl_none (Nat.not_lt.mp h), wl_none (Nat.not_lt.mp h)]
theorem wl_congr {ad : Nat → Nat} {N : Nat} {g g' : Nat → va_E} (h : ∀ i, i < N → g i = g' i) : wl_ ad N g = wl_ ad N g' := by
  apply List.ext_getElem?
  intro j
  by_cases hj : j < N
  · rw [wl_at hj, wl_at hj, h j hj]
  · rw [wl_none (Nat.not_lt.mp hj), wl_none (Nat.not_lt.mp hj)]
end GO_A
section GO_B
/-- what a method's walk knows all along -/
def Cx_ (p : Program) (l : Launch) (e : Env) (R : Room) (s : State) (m : MethodId) (args : Array Value) (below : List Frame) (meth : Method) (c : Code) (cc : ByteArray) (nL : Nat) (own : String) (D : va_G) (cl : List vw_C) (tys : List (ClassId × FieldType)) (TS : List Cond) : Prop :=
  p.tables.exec = Jvm.exec ∧ c.code = cc ∧ c.maxLocals = nL ∧ s.vm.findClass own = some m.cls ∧ (∀ w ∈ TS, w.before args s = true) ∧ va_K D cl tys s ∧ meth.locks = false
/-- the walk at pc, over the world w: from every heap that holds it -/
def Go_ (p : Program) (l : Launch) (e : Env) (R : Room) (s : State) (m : MethodId) (args : Array Value) (below : List Frame) (meth : Method) (c : Code) (D : va_G) (cl : List vw_C) (A : Nat → Prop) (nL cells slots : Nat) (Q : State → Prop) (w : va_W) (pc : Nat) (L : List (Nat × Value)) (st : List Value) : Prop :=
  ∀ (H : Heap) (locs : List Loc) (ls : Array Slot), va_P D cl w H → va_D A w → va_S A s.heap H locs → lh_ ls nL L → W p l e R s m args below meth c H locs cells slots Q (F0 m pc ls st)
variable {p : Program} {l : Launch} {e : Env} {R : Room} {s : State} {m : MethodId} {args : Array Value} {below : List Frame} {meth : Method} {c : Code} {D : va_G} {cl : List vw_C} {A : Nat → Prop} {nL cells slots : Nat} {Q : State → Prop} {w : va_W}
variable {cc : ByteArray} {own : String} {tys : List (ClassId × FieldType)} {TS : List Cond} {pc : Nat} {L : List (Nat × Value)} {rest : List Value}
theorem go_iconst (X : Cx_ p l e R s m args below meth c cc nL own D cl tys TS) {n : Int} {v : Int32} (hv : Int32.ofInt n = v) (d : decode cc pc = .ok (.iconst n, 1)) (k : Go_ p l e R s m args below meth c D cl A nL cells slots Q w (pc + 1) L (.int v :: rest)) : Go_ p l e R s m args below meth c D cl A nL cells slots Q w pc L rest := fun H locs ls hP hD hS hl => lv_iconst X.1 X.2.1 d hv (k H locs ls hP hD hS hl)
theorem go_bipush (X : Cx_ p l e R s m args below meth c cc nL own D cl tys TS) {n : Int} {v : Int32} (hv : (Int8.ofInt n).toInt32 = v) (d : decode cc pc = .ok (.bipush n, 2)) (k : Go_ p l e R s m args below meth c D cl A nL cells slots Q w (pc + 2) L (.int v :: rest)) : Go_ p l e R s m args below meth c D cl A nL cells slots Q w pc L rest := fun H locs ls hP hD hS hl => lv_bipush X.1 X.2.1 d hv (k H locs ls hP hD hS hl)
theorem go_sipush (X : Cx_ p l e R s m args below meth c cc nL own D cl tys TS) {n : Int} {v : Int32} (hv : (Int16.ofInt n).toInt32 = v) (d : decode cc pc = .ok (.sipush n, 3)) (k : Go_ p l e R s m args below meth c D cl A nL cells slots Q w (pc + 3) L (.int v :: rest)) : Go_ p l e R s m args below meth c D cl A nL cells slots Q w pc L rest := fun H locs ls hP hD hS hl => lv_sipush X.1 X.2.1 d hv (k H locs ls hP hD hS hl)
theorem go_ldc (X : Cx_ p l e R s m args below meth c cc nL own D cl tys TS) {index : Nat} {v : Int32} (hc : Cond.constant own index v ∈ TS) (d : decode cc pc = .ok (.ldc index, 2)) (k : Go_ p l e R s m args below meth c D cl A nL cells slots Q w (pc + 2) L (.int v :: rest)) : Go_ p l e R s m args below meth c D cl A nL cells slots Q w pc L rest := fun H locs ls hP hD hS hl => lv_ldc X.1 X.2.1 X.2.2.2.1 (X.2.2.2.2.1 _ hc) d (k H locs ls hP hD hS hl)
theorem go_iload_n (X : Cx_ p l e R s m args below meth c cc nL own D cl tys TS) {j : Fin 4} {i : Nat} {x : Int32} (hi : (j : Nat) = i) (hk : lk_ L i = some (.int x)) (d : decode cc pc = .ok (.iload_n j, 1)) (k : Go_ p l e R s m args below meth c D cl A nL cells slots Q w (pc + 1) L (.int x :: rest)) : Go_ p l e R s m args below meth c D cl A nL cells slots Q w pc L rest := fun H locs ls hP hD hS hl => lv_iload_n X.1 X.2.1 d hi (lh_get hl hk) (k H locs ls hP hD hS hl)
theorem go_iload (X : Cx_ p l e R s m args below meth c cc nL own D cl tys TS) {i : Nat} {x : Int32} (hk : lk_ L i = some (.int x)) (d : decode cc pc = .ok (.iload i, 2)) (k : Go_ p l e R s m args below meth c D cl A nL cells slots Q w (pc + 2) L (.int x :: rest)) : Go_ p l e R s m args below meth c D cl A nL cells slots Q w pc L rest := fun H locs ls hP hD hS hl => lv_iload X.1 X.2.1 d (lh_get hl hk) (k H locs ls hP hD hS hl)
theorem go_aload_n (X : Cx_ p l e R s m args below meth c cc nL own D cl tys TS) {j : Fin 4} {i : Nat} {x : Nat} (hi : (j : Nat) = i) (hk : lk_ L i = some (.ref x)) (d : decode cc pc = .ok (.aload_n j, 1)) (k : Go_ p l e R s m args below meth c D cl A nL cells slots Q w (pc + 1) L (.ref x :: rest)) : Go_ p l e R s m args below meth c D cl A nL cells slots Q w pc L rest := fun H locs ls hP hD hS hl => lv_aload_n X.1 X.2.1 d hi (lh_get hl hk) (k H locs ls hP hD hS hl)
theorem go_aload (X : Cx_ p l e R s m args below meth c cc nL own D cl tys TS) {i : Nat} {x : Nat} (hk : lk_ L i = some (.ref x)) (d : decode cc pc = .ok (.aload i, 2)) (k : Go_ p l e R s m args below meth c D cl A nL cells slots Q w (pc + 2) L (.ref x :: rest)) : Go_ p l e R s m args below meth c D cl A nL cells slots Q w pc L rest := fun H locs ls hP hD hS hl => lv_aload X.1 X.2.1 d (lh_get hl hk) (k H locs ls hP hD hS hl)
theorem go_aloadN_n (X : Cx_ p l e R s m args below meth c cc nL own D cl tys TS) {j : Fin 4} {i : Nat} (hi : (j : Nat) = i) (hk : lk_ L i = some (.null)) (d : decode cc pc = .ok (.aload_n j, 1)) (k : Go_ p l e R s m args below meth c D cl A nL cells slots Q w (pc + 1) L (.null :: rest)) : Go_ p l e R s m args below meth c D cl A nL cells slots Q w pc L rest := fun H locs ls hP hD hS hl => lv_aload_nN X.1 X.2.1 d hi (lh_get hl hk) (k H locs ls hP hD hS hl)
theorem go_aloadN (X : Cx_ p l e R s m args below meth c cc nL own D cl tys TS) {i : Nat} (hk : lk_ L i = some (.null)) (d : decode cc pc = .ok (.aload i, 2)) (k : Go_ p l e R s m args below meth c D cl A nL cells slots Q w (pc + 2) L (.null :: rest)) : Go_ p l e R s m args below meth c D cl A nL cells slots Q w pc L rest := fun H locs ls hP hD hS hl => lv_aloadN X.1 X.2.1 d (lh_get hl hk) (k H locs ls hP hD hS hl)
theorem go_istore_n (X : Cx_ p l e R s m args below meth c cc nL own D cl tys TS) {j : Fin 4} {i : Nat} {x : Int32} (hi : (j : Nat) = i) (hn : i < nL) (d : decode cc pc = .ok (.istore_n j, 1)) (k : Go_ p l e R s m args below meth c D cl A nL cells slots Q w (pc + 1) (sv_ L i (.int x)) rest) : Go_ p l e R s m args below meth c D cl A nL cells slots Q w pc L (.int x :: rest) := fun H locs ls hP hD hS hl => lv_istore_n X.1 X.2.1 d hi hl.1 hn rfl (fun ls' h' => k H locs ls' hP hD hS (lh_set rfl hl.2 h'))
theorem go_istore (X : Cx_ p l e R s m args below meth c cc nL own D cl tys TS) {i : Nat} {x : Int32} (hn : i < nL) (d : decode cc pc = .ok (.istore i, 2)) (k : Go_ p l e R s m args below meth c D cl A nL cells slots Q w (pc + 2) (sv_ L i (.int x)) rest) : Go_ p l e R s m args below meth c D cl A nL cells slots Q w pc L (.int x :: rest) := fun H locs ls hP hD hS hl => lv_istore X.1 X.2.1 d hl.1 hn rfl (fun ls' h' => k H locs ls' hP hD hS (lh_set rfl hl.2 h'))
theorem go_astore_n (X : Cx_ p l e R s m args below meth c cc nL own D cl tys TS) {j : Fin 4} {i : Nat} {x : Nat} (hi : (j : Nat) = i) (hn : i < nL) (d : decode cc pc = .ok (.astore_n j, 1)) (k : Go_ p l e R s m args below meth c D cl A nL cells slots Q w (pc + 1) (sv_ L i (.ref x)) rest) : Go_ p l e R s m args below meth c D cl A nL cells slots Q w pc L (.ref x :: rest) := fun H locs ls hP hD hS hl => lv_astore_n X.1 X.2.1 d hi hl.1 hn rfl (fun ls' h' => k H locs ls' hP hD hS (lh_set rfl hl.2 h'))
theorem go_astore (X : Cx_ p l e R s m args below meth c cc nL own D cl tys TS) {i : Nat} {x : Nat} (hn : i < nL) (d : decode cc pc = .ok (.astore i, 2)) (k : Go_ p l e R s m args below meth c D cl A nL cells slots Q w (pc + 2) (sv_ L i (.ref x)) rest) : Go_ p l e R s m args below meth c D cl A nL cells slots Q w pc L (.ref x :: rest) := fun H locs ls hP hD hS hl => lv_astore X.1 X.2.1 d hl.1 hn rfl (fun ls' h' => k H locs ls' hP hD hS (lh_set rfl hl.2 h'))
theorem go_astoreN_n (X : Cx_ p l e R s m args below meth c cc nL own D cl tys TS) {j : Fin 4} {i : Nat} (hi : (j : Nat) = i) (hn : i < nL) (d : decode cc pc = .ok (.astore_n j, 1)) (k : Go_ p l e R s m args below meth c D cl A nL cells slots Q w (pc + 1) (sv_ L i (.null)) rest) : Go_ p l e R s m args below meth c D cl A nL cells slots Q w pc L (.null :: rest) := fun H locs ls hP hD hS hl => lv_astore_nN X.1 X.2.1 d hi hl.1 hn rfl (fun ls' h' => k H locs ls' hP hD hS (lh_set rfl hl.2 h'))
theorem go_astoreN (X : Cx_ p l e R s m args below meth c cc nL own D cl tys TS) {i : Nat} (hn : i < nL) (d : decode cc pc = .ok (.astore i, 2)) (k : Go_ p l e R s m args below meth c D cl A nL cells slots Q w (pc + 2) (sv_ L i (.null)) rest) : Go_ p l e R s m args below meth c D cl A nL cells slots Q w pc L (.null :: rest) := fun H locs ls hP hD hS hl => lv_astoreN X.1 X.2.1 d hl.1 hn rfl (fun ls' h' => k H locs ls' hP hD hS (lh_set rfl hl.2 h'))
theorem go_iinc (X : Cx_ p l e R s m args below meth c cc nL own D cl tys TS) {i : Nat} {n : Int} {x v : Int32} (hk : lk_ L i = some (.int x)) (hv : x + Int32.ofInt n = v) (hn : i < nL) (d : decode cc pc = .ok (.iinc i n, 3)) (k : Go_ p l e R s m args below meth c D cl A nL cells slots Q w (pc + 3) (sv_ L i (.int v)) rest) : Go_ p l e R s m args below meth c D cl A nL cells slots Q w pc L rest := fun H locs ls hP hD hS hl => by
  obtain ⟨k9, hk9⟩ := lk_at hk
  exact lv_iinc X.1 X.2.1 d hl.1 hk9 hv hn rfl (fun ls' h' => k H locs ls' hP hD hS (lh_set rfl hl.2 h'))
theorem go_iadd (X : Cx_ p l e R s m args below meth c cc nL own D cl tys TS) {x y : Int32} (d : decode cc pc = .ok (.iadd, 1)) (k : Go_ p l e R s m args below meth c D cl A nL cells slots Q w (pc + 1) L (.int (x + y) :: rest)) : Go_ p l e R s m args below meth c D cl A nL cells slots Q w pc L (.int y :: .int x :: rest) := fun H locs ls hP hD hS hl => lv_iadd X.1 X.2.1 d (k H locs ls hP hD hS hl)
theorem go_isub (X : Cx_ p l e R s m args below meth c cc nL own D cl tys TS) {x y : Int32} (d : decode cc pc = .ok (.isub, 1)) (k : Go_ p l e R s m args below meth c D cl A nL cells slots Q w (pc + 1) L (.int (x - y) :: rest)) : Go_ p l e R s m args below meth c D cl A nL cells slots Q w pc L (.int y :: .int x :: rest) := fun H locs ls hP hD hS hl => lv_isub X.1 X.2.1 d (k H locs ls hP hD hS hl)
theorem go_imul (X : Cx_ p l e R s m args below meth c cc nL own D cl tys TS) {x y : Int32} (d : decode cc pc = .ok (.imul, 1)) (k : Go_ p l e R s m args below meth c D cl A nL cells slots Q w (pc + 1) L (.int (x * y) :: rest)) : Go_ p l e R s m args below meth c D cl A nL cells slots Q w pc L (.int y :: .int x :: rest) := fun H locs ls hP hD hS hl => lv_imul X.1 X.2.1 d (k H locs ls hP hD hS hl)
theorem go_iand (X : Cx_ p l e R s m args below meth c cc nL own D cl tys TS) {x y : Int32} (d : decode cc pc = .ok (.iand, 1)) (k : Go_ p l e R s m args below meth c D cl A nL cells slots Q w (pc + 1) L (.int (x &&& y) :: rest)) : Go_ p l e R s m args below meth c D cl A nL cells slots Q w pc L (.int y :: .int x :: rest) := fun H locs ls hP hD hS hl => lv_iand X.1 X.2.1 d (k H locs ls hP hD hS hl)
theorem go_irem (X : Cx_ p l e R s m args below meth c cc nL own D cl tys TS) {x y : Int32} (hne : ¬ y = 0) (d : decode cc pc = .ok (.irem, 1)) (k : Go_ p l e R s m args below meth c D cl A nL cells slots Q w (pc + 1) L (.int (x - x / y * y) :: rest)) : Go_ p l e R s m args below meth c D cl A nL cells slots Q w pc L (.int y :: .int x :: rest) := fun H locs ls hP hD hS hl => lv_irem X.1 X.2.1 d hne (k H locs ls hP hD hS hl)
theorem go_iushr (X : Cx_ p l e R s m args below meth c cc nL own D cl tys TS) {x y : Int32} (d : decode cc pc = .ok (.iushr, 1)) (k : Go_ p l e R s m args below meth c D cl A nL cells slots Q w (pc + 1) L (.int (x.toUInt32 >>> (y.toUInt32 &&& Int32.toUInt32 31)).toInt32 :: rest)) : Go_ p l e R s m args below meth c D cl A nL cells slots Q w pc L (.int y :: .int x :: rest) := fun H locs ls hP hD hS hl => lv_iushr X.1 X.2.1 d rfl (k H locs ls hP hD hS hl)
theorem go_i2l (X : Cx_ p l e R s m args below meth c cc nL own D cl tys TS) {x : Int32} (d : decode cc pc = .ok (.i2l, 1)) (k : Go_ p l e R s m args below meth c D cl A nL cells slots Q w (pc + 1) L (.long x.toInt64 :: rest)) : Go_ p l e R s m args below meth c D cl A nL cells slots Q w pc L (.int x :: rest) := fun H locs ls hP hD hS hl => lv_i2l X.1 X.2.1 d rfl (k H locs ls hP hD hS hl)
theorem go_dup (X : Cx_ p l e R s m args below meth c cc nL own D cl tys TS) {v : Value} (hv : v.category = 1) (d : decode cc pc = .ok (.dup, 1)) (k : Go_ p l e R s m args below meth c D cl A nL cells slots Q w (pc + 1) L (v :: v :: rest)) : Go_ p l e R s m args below meth c D cl A nL cells slots Q w pc L (v :: rest) := fun H locs ls hP hD hS hl => lv_dup X.1 X.2.1 d hv (k H locs ls hP hD hS hl)
theorem go_pop (X : Cx_ p l e R s m args below meth c cc nL own D cl tys TS) {v : Value} (hv : v.category = 1) (d : decode cc pc = .ok (.pop, 1)) (k : Go_ p l e R s m args below meth c D cl A nL cells slots Q w (pc + 1) L rest) : Go_ p l e R s m args below meth c D cl A nL cells slots Q w pc L (v :: rest) := fun H locs ls hP hD hS hl => lv_pop X.1 X.2.1 d hv (k H locs ls hP hD hS hl)
theorem go_dup2 (X : Cx_ p l e R s m args below meth c cc nL own D cl tys TS) {v u : Value} (hv : v.category = 1) (hu : u.category = 1) (d : decode cc pc = .ok (.dup2, 1)) (k : Go_ p l e R s m args below meth c D cl A nL cells slots Q w (pc + 1) L (v :: u :: v :: u :: rest)) : Go_ p l e R s m args below meth c D cl A nL cells slots Q w pc L (v :: u :: rest) := fun H locs ls hP hD hS hl => lv_dup2_11 X.1 X.2.1 d hv hu (k H locs ls hP hD hS hl)
theorem go_if_eq (X : Cx_ p l e R s m args below meth c cc nL own D cl tys TS) {x : Int32} {off : Int} {tgt : Nat} (d : decode cc pc = .ok (.ifCond .eq off, 3)) (ht : (pc : Int) + off = (tgt : Int)) (kt : x = 0 → Go_ p l e R s m args below meth c D cl A nL cells slots Q w tgt L rest) (kf : ¬ (x = 0) → Go_ p l e R s m args below meth c D cl A nL cells slots Q w (pc + 3) L rest) : Go_ p l e R s m args below meth c D cl A nL cells slots Q w pc L (.int x :: rest) := fun H locs ls hP hD hS hl => lv_if_eq X.1 X.2.1 d ht (fun h => kt h H locs ls hP hD hS hl) (fun h => kf h H locs ls hP hD hS hl)
theorem go_if_ne (X : Cx_ p l e R s m args below meth c cc nL own D cl tys TS) {x : Int32} {off : Int} {tgt : Nat} (d : decode cc pc = .ok (.ifCond .ne off, 3)) (ht : (pc : Int) + off = (tgt : Int)) (kt : ¬ x = 0 → Go_ p l e R s m args below meth c D cl A nL cells slots Q w tgt L rest) (kf : x = 0 → Go_ p l e R s m args below meth c D cl A nL cells slots Q w (pc + 3) L rest) : Go_ p l e R s m args below meth c D cl A nL cells slots Q w pc L (.int x :: rest) := fun H locs ls hP hD hS hl => lv_if_ne X.1 X.2.1 d ht (fun h => kt h H locs ls hP hD hS hl) (fun h => kf h H locs ls hP hD hS hl)
theorem go_if_lt (X : Cx_ p l e R s m args below meth c cc nL own D cl tys TS) {x : Int32} {off : Int} {tgt : Nat} (d : decode cc pc = .ok (.ifCond .lt off, 3)) (ht : (pc : Int) + off = (tgt : Int)) (kt : x < 0 → Go_ p l e R s m args below meth c D cl A nL cells slots Q w tgt L rest) (kf : ¬ (x < 0) → Go_ p l e R s m args below meth c D cl A nL cells slots Q w (pc + 3) L rest) : Go_ p l e R s m args below meth c D cl A nL cells slots Q w pc L (.int x :: rest) := fun H locs ls hP hD hS hl => lv_if_lt X.1 X.2.1 d ht (fun h => kt h H locs ls hP hD hS hl) (fun h => kf h H locs ls hP hD hS hl)
theorem go_if_ge (X : Cx_ p l e R s m args below meth c cc nL own D cl tys TS) {x : Int32} {off : Int} {tgt : Nat} (d : decode cc pc = .ok (.ifCond .ge off, 3)) (ht : (pc : Int) + off = (tgt : Int)) (kt : 0 ≤ x → Go_ p l e R s m args below meth c D cl A nL cells slots Q w tgt L rest) (kf : ¬ (0 ≤ x) → Go_ p l e R s m args below meth c D cl A nL cells slots Q w (pc + 3) L rest) : Go_ p l e R s m args below meth c D cl A nL cells slots Q w pc L (.int x :: rest) := fun H locs ls hP hD hS hl => lv_if_ge X.1 X.2.1 d ht (fun h => kt h H locs ls hP hD hS hl) (fun h => kf h H locs ls hP hD hS hl)
theorem go_if_gt (X : Cx_ p l e R s m args below meth c cc nL own D cl tys TS) {x : Int32} {off : Int} {tgt : Nat} (d : decode cc pc = .ok (.ifCond .gt off, 3)) (ht : (pc : Int) + off = (tgt : Int)) (kt : 0 < x → Go_ p l e R s m args below meth c D cl A nL cells slots Q w tgt L rest) (kf : ¬ (0 < x) → Go_ p l e R s m args below meth c D cl A nL cells slots Q w (pc + 3) L rest) : Go_ p l e R s m args below meth c D cl A nL cells slots Q w pc L (.int x :: rest) := fun H locs ls hP hD hS hl => lv_if_gt X.1 X.2.1 d ht (fun h => kt h H locs ls hP hD hS hl) (fun h => kf h H locs ls hP hD hS hl)
theorem go_if_le (X : Cx_ p l e R s m args below meth c cc nL own D cl tys TS) {x : Int32} {off : Int} {tgt : Nat} (d : decode cc pc = .ok (.ifCond .le off, 3)) (ht : (pc : Int) + off = (tgt : Int)) (kt : x ≤ 0 → Go_ p l e R s m args below meth c D cl A nL cells slots Q w tgt L rest) (kf : ¬ (x ≤ 0) → Go_ p l e R s m args below meth c D cl A nL cells slots Q w (pc + 3) L rest) : Go_ p l e R s m args below meth c D cl A nL cells slots Q w pc L (.int x :: rest) := fun H locs ls hP hD hS hl => lv_if_le X.1 X.2.1 d ht (fun h => kt h H locs ls hP hD hS hl) (fun h => kf h H locs ls hP hD hS hl)
theorem go_icmp_eq (X : Cx_ p l e R s m args below meth c cc nL own D cl tys TS) {x y : Int32} {off : Int} {tgt : Nat} (d : decode cc pc = .ok (.if_icmp .eq off, 3)) (ht : (pc : Int) + off = (tgt : Int)) (kt : x = y → Go_ p l e R s m args below meth c D cl A nL cells slots Q w tgt L rest) (kf : ¬ (x = y) → Go_ p l e R s m args below meth c D cl A nL cells slots Q w (pc + 3) L rest) : Go_ p l e R s m args below meth c D cl A nL cells slots Q w pc L (.int y :: .int x :: rest) := fun H locs ls hP hD hS hl => lv_icmp_eq X.1 X.2.1 d ht (fun h => kt h H locs ls hP hD hS hl) (fun h => kf h H locs ls hP hD hS hl)
theorem go_icmp_ne (X : Cx_ p l e R s m args below meth c cc nL own D cl tys TS) {x y : Int32} {off : Int} {tgt : Nat} (d : decode cc pc = .ok (.if_icmp .ne off, 3)) (ht : (pc : Int) + off = (tgt : Int)) (kt : ¬ x = y → Go_ p l e R s m args below meth c D cl A nL cells slots Q w tgt L rest) (kf : x = y → Go_ p l e R s m args below meth c D cl A nL cells slots Q w (pc + 3) L rest) : Go_ p l e R s m args below meth c D cl A nL cells slots Q w pc L (.int y :: .int x :: rest) := fun H locs ls hP hD hS hl => lv_icmp_ne X.1 X.2.1 d ht (fun h => kt h H locs ls hP hD hS hl) (fun h => kf h H locs ls hP hD hS hl)
theorem go_icmp_lt (X : Cx_ p l e R s m args below meth c cc nL own D cl tys TS) {x y : Int32} {off : Int} {tgt : Nat} (d : decode cc pc = .ok (.if_icmp .lt off, 3)) (ht : (pc : Int) + off = (tgt : Int)) (kt : x < y → Go_ p l e R s m args below meth c D cl A nL cells slots Q w tgt L rest) (kf : ¬ (x < y) → Go_ p l e R s m args below meth c D cl A nL cells slots Q w (pc + 3) L rest) : Go_ p l e R s m args below meth c D cl A nL cells slots Q w pc L (.int y :: .int x :: rest) := fun H locs ls hP hD hS hl => lv_icmp_lt X.1 X.2.1 d ht (fun h => kt h H locs ls hP hD hS hl) (fun h => kf h H locs ls hP hD hS hl)
theorem go_icmp_ge (X : Cx_ p l e R s m args below meth c cc nL own D cl tys TS) {x y : Int32} {off : Int} {tgt : Nat} (d : decode cc pc = .ok (.if_icmp .ge off, 3)) (ht : (pc : Int) + off = (tgt : Int)) (kt : y ≤ x → Go_ p l e R s m args below meth c D cl A nL cells slots Q w tgt L rest) (kf : ¬ (y ≤ x) → Go_ p l e R s m args below meth c D cl A nL cells slots Q w (pc + 3) L rest) : Go_ p l e R s m args below meth c D cl A nL cells slots Q w pc L (.int y :: .int x :: rest) := fun H locs ls hP hD hS hl => lv_icmp_ge X.1 X.2.1 d ht (fun h => kt h H locs ls hP hD hS hl) (fun h => kf h H locs ls hP hD hS hl)
theorem go_icmp_gt (X : Cx_ p l e R s m args below meth c cc nL own D cl tys TS) {x y : Int32} {off : Int} {tgt : Nat} (d : decode cc pc = .ok (.if_icmp .gt off, 3)) (ht : (pc : Int) + off = (tgt : Int)) (kt : y < x → Go_ p l e R s m args below meth c D cl A nL cells slots Q w tgt L rest) (kf : ¬ (y < x) → Go_ p l e R s m args below meth c D cl A nL cells slots Q w (pc + 3) L rest) : Go_ p l e R s m args below meth c D cl A nL cells slots Q w pc L (.int y :: .int x :: rest) := fun H locs ls hP hD hS hl => lv_icmp_gt X.1 X.2.1 d ht (fun h => kt h H locs ls hP hD hS hl) (fun h => kf h H locs ls hP hD hS hl)
theorem go_icmp_le (X : Cx_ p l e R s m args below meth c cc nL own D cl tys TS) {x y : Int32} {off : Int} {tgt : Nat} (d : decode cc pc = .ok (.if_icmp .le off, 3)) (ht : (pc : Int) + off = (tgt : Int)) (kt : x ≤ y → Go_ p l e R s m args below meth c D cl A nL cells slots Q w tgt L rest) (kf : ¬ (x ≤ y) → Go_ p l e R s m args below meth c D cl A nL cells slots Q w (pc + 3) L rest) : Go_ p l e R s m args below meth c D cl A nL cells slots Q w pc L (.int y :: .int x :: rest) := fun H locs ls hP hD hS hl => lv_icmp_le X.1 X.2.1 d ht (fun h => kt h H locs ls hP hD hS hl) (fun h => kf h H locs ls hP hD hS hl)
theorem go_goto (X : Cx_ p l e R s m args below meth c cc nL own D cl tys TS) {off : Int} {tgt : Nat} (d : decode cc pc = .ok (.goto off, 3)) (ht : (pc : Int) + off = (tgt : Int)) (k : Go_ p l e R s m args below meth c D cl A nL cells slots Q w tgt L rest) : Go_ p l e R s m args below meth c D cl A nL cells slots Q w pc L rest := fun H locs ls hP hD hS hl => lv_goto X.1 X.2.1 d ht (k H locs ls hP hD hS hl)
theorem go_ifnonnull (X : Cx_ p l e R s m args below meth c cc nL own D cl tys TS) {x : Nat} {off : Int} {tgt : Nat} (d : decode cc pc = .ok (.ifnonnull off, 3)) (ht : (pc : Int) + off = (tgt : Int)) (k : Go_ p l e R s m args below meth c D cl A nL cells slots Q w tgt L rest) : Go_ p l e R s m args below meth c D cl A nL cells slots Q w pc L (.ref x :: rest) := fun H locs ls hP hD hS hl => lv_ifnonnull X.1 X.2.1 d ht (k H locs ls hP hD hS hl)
theorem go_ifnonnullN (X : Cx_ p l e R s m args below meth c cc nL own D cl tys TS) {off : Int} (d : decode cc pc = .ok (.ifnonnull off, 3)) (k : Go_ p l e R s m args below meth c D cl A nL cells slots Q w (pc + 3) L rest) : Go_ p l e R s m args below meth c D cl A nL cells slots Q w pc L (.null :: rest) := fun H locs ls hP hD hS hl => lv_ifnonnullN X.1 X.2.1 d (k H locs ls hP hD hS hl)
theorem go_ifnull (X : Cx_ p l e R s m args below meth c cc nL own D cl tys TS) {x : Nat} {off : Int} (d : decode cc pc = .ok (.ifnull off, 3)) (k : Go_ p l e R s m args below meth c D cl A nL cells slots Q w (pc + 3) L rest) : Go_ p l e R s m args below meth c D cl A nL cells slots Q w pc L (.ref x :: rest) := fun H locs ls hP hD hS hl => lv_ifnull X.1 X.2.1 d (k H locs ls hP hD hS hl)
theorem go_ifnullN (X : Cx_ p l e R s m args below meth c cc nL own D cl tys TS) {off : Int} {tgt : Nat} (d : decode cc pc = .ok (.ifnull off, 3)) (ht : (pc : Int) + off = (tgt : Int)) (k : Go_ p l e R s m args below meth c D cl A nL cells slots Q w tgt L rest) : Go_ p l e R s m args below meth c D cl A nL cells slots Q w pc L (.null :: rest) := fun H locs ls hP hD hS hl => lv_ifnullN X.1 X.2.1 d ht (k H locs ls hP hD hS hl)
theorem go_tableOut (X : Cx_ p l e R s m args below meth c cc nL own D cl tys TS) {dflt lo hi : Int} {offs : Array Int} {len : Nat} {x : Int32} {tgt : Nat} (d : decode cc pc = .ok (.tableswitch dflt lo hi offs, len)) (h : x.toInt < lo ∨ hi < x.toInt) (ht : (pc : Int) + dflt = (tgt : Int)) (k : Go_ p l e R s m args below meth c D cl A nL cells slots Q w tgt L rest) : Go_ p l e R s m args below meth c D cl A nL cells slots Q w pc L (.int x :: rest) := fun H locs ls hP hD hS hl => lv_tableOut X.1 X.2.1 d h ht (k H locs ls hP hD hS hl)
theorem go_tableIn (X : Cx_ p l e R s m args below meth c cc nL own D cl tys TS) {dflt lo hi : Int} {offs : Array Int} {len : Nat} {x : Int32} {off : Int} {tgt : Nat} (d : decode cc pc = .ok (.tableswitch dflt lo hi offs, len)) (h1 : ¬ x.toInt < lo) (h2 : ¬ hi < x.toInt) (ho : offs[(x.toInt - lo).toNat]? = some off) (ht : (pc : Int) + off = (tgt : Int)) (k : Go_ p l e R s m args below meth c D cl A nL cells slots Q w tgt L rest) : Go_ p l e R s m args below meth c D cl A nL cells slots Q w pc L (.int x :: rest) := fun H locs ls hP hD hS hl => lv_tableIn X.1 X.2.1 d h1 h2 ho ht (k H locs ls hP hD hS hl)
theorem go_lookup (X : Cx_ p l e R s m args below meth c cc nL own D cl tys TS) {dflt : Int} {ps : Array (Int × Int)} {len : Nat} {x : Int32} {off : Int} {tgt : Nat} (d : decode cc pc = .ok (.lookupswitch dflt ps, len)) (hp : (ps.toList.zip (ps.toList.drop 1)).all (fun (a, next) => a.1 < next.1) = true) (ho : Op.lookupswitch.offset ps.toList dflt x.toInt = off) (ht : (pc : Int) + off = (tgt : Int)) (k : Go_ p l e R s m args below meth c D cl A nL cells slots Q w tgt L rest) : Go_ p l e R s m args below meth c D cl A nL cells slots Q w pc L (.int x :: rest) := fun H locs ls hP hD hS hl => lv_lookup X.1 X.2.1 d hp ho ht (k H locs ls hP hD hS hl)
/-- fewer locals -/
theorem go_loc {L' : List (Nat × Value)} (hs : L'.map (fun q => lk_ L q.1) = L'.map (fun q => some q.2)) (k : Go_ p l e R s m args below meth c D cl A nL cells slots Q w pc L' rest) : Go_ p l e R s m args below meth c D cl A nL cells slots Q w pc L rest := fun H locs ls hP hD hS hl => k H locs ls hP hD hS (lh_sub hl hs)
theorem go_eqw {w' : va_W} (h : w = w') (k : Go_ p l e R s m args below meth c D cl A nL cells slots Q w' pc L rest) : Go_ p l e R s m args below meth c D cl A nL cells slots Q w pc L rest := by rw [h]; exact k
theorem go_eqs {st' : List Value} (h : rest = st') (k : Go_ p l e R s m args below meth c D cl A nL cells slots Q w pc L st') : Go_ p l e R s m args below meth c D cl A nL cells slots Q w pc L rest := by rw [h]; exact k
end GO_B
end
section
section PURE_A
/-- a state: components, each a row of ints -/
abbrev ST_ : Type := Nat → Nat → Int32
def u1_ (σ : ST_) (c : Nat) (f : Nat → Int32) : ST_ := fun a => cond (Nat.beq a c) f (σ a)
def u2_ (σ : ST_) (c i : Nat) (v : Int32) : ST_ := u1_ σ c (upd (σ c) i v)
abbrev ix_ (x : Int32) : Nat := x.toNatClampNeg
theorem u1_same (σ : ST_) (c : Nat) (f : Nat → Int32) : u1_ σ c f c = f := by
  unfold u1_
  cases hb : Nat.beq c c with
  | true => rfl
  | false => exact absurd rfl (Nat.ne_of_beq_eq_false hb)
theorem u1_ne (σ : ST_) {c a : Nat} (f : Nat → Int32) (h : a ≠ c) : u1_ σ c f a = σ a := by
  unfold u1_
  cases hb : Nat.beq a c with
  | true => exact absurd (Nat.eq_of_beq_eq_true hb) h
  | false => rfl
theorem u2_same (σ : ST_) (c i : Nat) (v : Int32) : u2_ σ c i v c = upd (σ c) i v := u1_same σ c _
theorem u2_ne (σ : ST_) {c a : Nat} (i : Nat) (v : Int32) (h : a ≠ c) : u2_ σ c i v a = σ a := u1_ne σ _ h
/-- the value at a place behind an update -/
theorem u2_at (σ : ST_) (c i : Nat) (v : Int32) (a j : Nat) : u2_ σ c i v a j = if a = c ∧ j = i then v else σ a j := by
  by_cases h : a = c
  · subst h
    rw [u2_same]
    by_cases hj : j = i <;> simp [upd, hj]
  · rw [u2_ne _ _ _ h]
    simp [h]
/-- the plain kinds: contents, count, answer -/
def sh_ (f : Nat → Int32) (m : Nat) : Nat → Int32 := fun k => if k < m then f (k + 1) else f k
def sm_ (f : Nat → Int32) : Nat → Int32
  | 0 => 0
  | k + 1 => sm_ f k + f k
def pq_ (K : Nat) (op a : Int32) (f : Nat → Int32) (z : Int32) : (Nat → Int32) × Int32 × Int32 :=
  if op = 2 then (f, z, z)
  else if op = 0 then (if z = 8 then (f, z, -1) else (upd f (ix_ z) a, z + 1, z + 1))
  else if z = 0 then (f, z, -1)
  else if K = 0 then (sh_ f (ix_ (z - 1)), z - 1, f 0) else (f, z - 1, f (ix_ (z - 1)))
def pt_ (op a b : Int32) (f : Nat → Int32) (z : Int32) : (Nat → Int32) × Int32 × Int32 :=
  (if op = 0 then upd f (ix_ (a &&& 7)) b else f, z, if op = 2 then sm_ f 8 else f (ix_ (a &&& 7)))
def pb_ (op a b : Int32) (f : Nat → Int32) (z : Int32) : (Nat → Int32) × Int32 × Int32 :=
  if op = 0 then
    (if f (ix_ (a &&& 3)) < 10 then (f, z, 0)
     else (upd (upd f (ix_ (a &&& 3)) (f (ix_ (a &&& 3)) - 10)) (ix_ (b &&& 3)) (upd f (ix_ (a &&& 3)) (f (ix_ (a &&& 3)) - 10) (ix_ (b &&& 3)) + 10), z, 1))
  else if op = 2 then (upd f (ix_ (a &&& 3)) (f (ix_ (a &&& 3)) + b), z, f (ix_ (a &&& 3)) + b)
  else (f, z, f (ix_ (a &&& 3)))
def pa_ (K : Nat) (op a b : Int32) (f : Nat → Int32) (z : Int32) : (Nat → Int32) × Int32 × Int32 :=
  if K < 2 then pq_ K op a f z else if K = 2 then pt_ op a b f z else pb_ op a b f z
/-- what a new plain object holds -/
def pi_ (K : Nat) : Int32 := if K = 3 then 100 else 0
/-- along the log: behind j calls, from place 2 on -/
def rs_ (K : Nat) (cd ca cb : Nat → Int32) : Nat → (Nat → Int32) × Int32 × Int32
  | 0 => (fun _ => pi_ K, 0, 0)
  | j + 1 => pa_ K (cd (j + 2)) (ca (j + 2)) (cb (j + 2)) (rs_ K cd ca cb j).1 (rs_ K cd ca cb j).2.1
/-- the first place from i on, of n, with P -/
def ff_ (P : Nat → Bool) : Nat → Nat → Option Nat
  | _, 0 => none
  | i, n + 1 => cond (P i) (some i) (ff_ P (i + 1) n)
theorem ff_some {P : Nat → Bool} {n : Nat} : ∀ {i k : Nat}, ff_ P i n = some k → i ≤ k ∧ k < i + n ∧ P k = true ∧ ∀ j, i ≤ j → j < k → P j = false := by
  induction n with
  | zero => intro i k h; cases h
  | succ n ih =>
    intro i k h
    unfold ff_ at h
    cases hp : P i with
    | true =>
      rw [hp] at h
      have h1 : i = k := Option.some.inj h
      subst h1
      exact ⟨Nat.le_refl _, by omega, hp, fun j h1 h2 => by omega⟩
    | false =>
      rw [hp] at h
      obtain ⟨h1, h2, h3, h4⟩ := ih h
      refine ⟨by omega, by omega, h3, fun j h5 h6 => ?_⟩
      by_cases hj : j = i
      · rw [hj]; exact hp
      · exact h4 j (by omega) h6
theorem ff_none {P : Nat → Bool} {n : Nat} : ∀ {i : Nat}, ff_ P i n = none → ∀ j, i ≤ j → j < i + n → P j = false := by
  induction n with
  | zero => intro i _ j h1 h2; omega
  | succ n ih =>
    intro i h j h1 h2
    unfold ff_ at h
    cases hp : P i with
    | true => rw [hp] at h; cases h
    | false =>
      rw [hp] at h
      by_cases hj : j = i
      · rw [hj]; exact hp
      · exact ih h j (by omega) (by omega)
/-- the same, looked for from the end -/
def fd_ (P : Nat → Bool) : Nat → Int32 → Int32
  | 0, r => r
  | k + 1, r => fd_ P k (cond (P k) (nI k) r)
/-- how many of the first k have P -/
def ct_ (P : Nat → Bool) : Nat → Int32
  | 0 => 0
  | k + 1 => cond (P k) (ct_ P k + 1) (ct_ P k)
end PURE_A
section PURE_C
/-! the class: its steps on a state -/
def hc_free (σ : ST_) : Option Nat := ff_ (fun k => decide (σ 1 k = 0)) 0 32
def hc_take (σ : ST_) (k p : Nat) : ST_ := u2_ (u2_ (u2_ (u2_ (u2_ (u2_ (u2_ σ 1 k 1) 4 k (nI p)) 5 k (σ 15 p)) 6 k (σ 16 p)) 7 k (σ 17 p)) 2 k 0) 3 k (-1)
def hc_annS (σ : ST_) (k p : Nat) : ST_ := u2_ (u2_ (u2_ (u2_ (u2_ (hc_take σ k p) 12 p (nI k)) 9 p (nI k)) 13 p (σ 8 p)) 11 p 0) 10 p 1
def hc_ann (σ : ST_) (p : Nat) : ST_ × Int32 := match hc_free σ with
  | none => (σ, 3)
  | some k => (hc_annS σ k p, 0)
def hc_look1 (n : Nat) (σ : ST_) (p : Nat) : ST_ :=
  if σ 11 p < nI n then (if σ 2 (ix_ (σ 13 p)) < σ 2 (ix_ (σ 8 (ix_ (σ 11 p)))) then u2_ σ 13 p (σ 8 (ix_ (σ 11 p))) else σ) else σ
def hc_look (n : Nat) (σ : ST_) (p : Nat) : ST_ :=
  if nI n ≤ σ 11 p + 1 then u2_ (u2_ (hc_look1 n σ p) 11 p (σ 11 p + 1)) 10 p 2 else u2_ (hc_look1 n σ p) 11 p (σ 11 p + 1)
def hc_ask (σ : ST_) (p : Nat) : ST_ := u2_ σ 10 p (if 0 < σ 2 (ix_ (σ 12 p)) then 7 else 3)
def hc_helped (n : Nat) (σ : ST_) (p : Nat) : Int32 := σ 9 (ix_ (fmv (σ 2 (ix_ (σ 13 p)) + 1) (nI n)))
def hc_choose (n : Nat) (σ : ST_) (p : Nat) : ST_ :=
  u2_ (u2_ σ 14 p (if 0 ≤ hc_helped n σ p ∧ σ 2 (ix_ (hc_helped n σ p)) = 0 then hc_helped n σ p else σ 12 p)) 10 p 4
def hc_prop1 (σ : ST_) (p : Nat) : ST_ := if σ 3 (ix_ (σ 13 p)) < 0 then u2_ σ 3 (ix_ (σ 13 p)) (σ 14 p) else σ
def hc_prop (σ : ST_) (p : Nat) : ST_ := u2_ (u2_ (hc_prop1 σ p) 14 p (hc_prop1 σ p 3 (ix_ (σ 13 p)))) 10 p 5
/-- plain object j of the class does a call -/
def hc_perf (K j : Nat) (op a b : Int32) (σ : ST_) : ST_ :=
  u2_ (u1_ σ (30 + j) (pa_ K op a b (σ (30 + j)) (σ 33 j)).1) 33 j (pa_ K op a b (σ (30 + j)) (σ 33 j)).2.1
def hc_perfR (K j : Nat) (op a b : Int32) (σ : ST_) : Int32 := (pa_ K op a b (σ (30 + j)) (σ 33 j)).2.2
def hc_give1 (K : Nat) (σ : ST_) (k : Nat) : ST_ :=
  if σ 2 k = 0 then u2_ (hc_perf K 0 (σ 5 k) (σ 6 k) (σ 7 k) σ) 26 k (hc_perfR K 0 (σ 5 k) (σ 6 k) (σ 7 k) σ) else σ
def hc_give (K : Nat) (σ : ST_) (p : Nat) : ST_ :=
  u2_ (u2_ (hc_give1 K σ (ix_ (σ 14 p))) 2 (ix_ (σ 14 p)) (σ 2 (ix_ (σ 13 p)) + 1)) 10 p 6
def hc_move (σ : ST_) (p : Nat) : ST_ := u2_ (u2_ (u2_ σ 8 p (σ 14 p)) 13 p (σ 14 p)) 10 p 2
def hc_fin (σ : ST_) (p : Nat) : ST_ :=
  u2_ (u2_ (u2_ (u2_ (u2_ (u2_ σ 8 p (σ 12 p)) 9 p (-1)) 18 p (σ 18 p + 1)) 19 p (σ 26 (ix_ (σ 12 p)))) 20 p (σ 2 (ix_ (σ 12 p)))) 10 p (-1)
def hc_one (K n : Nat) (σ : ST_) (p : Nat) : ST_ × Int32 :=
  if σ 10 p = 0 then hc_ann σ p
  else if σ 10 p = 1 then (hc_look n σ p, 0)
  else if σ 10 p = 2 then (hc_ask σ p, 0)
  else if σ 10 p = 3 then (hc_choose n σ p, 0)
  else if σ 10 p = 4 then (hc_prop σ p, 0)
  else if σ 10 p = 5 then (hc_give K σ p, 0)
  else if σ 10 p = 6 then (hc_move σ p, 0)
  else if σ 10 p = 7 then (hc_fin σ p, 1)
  else (σ, 2)
def hc_call (σ : ST_) (p : Nat) (op a b : Int32) : ST_ := u2_ (u2_ (u2_ (u2_ σ 15 p op) 16 p a) 17 p b) 10 p 0
/-- the numbers that run draws -/
def rx_ (x : Int32) : Int32 := x * 1103515245 + 12345
def rq_ (n : Nat) (x : Int32) : Nat := ix_ ((x.toUInt32 >>> ((16 : Int32).toUInt32 &&& Int32.toUInt32 31)).toInt32 - (x.toUInt32 >>> ((16 : Int32).toUInt32 &&& Int32.toUInt32 31)).toInt32 / nI n * nI n)
def hc_run (K n : Nat) : Nat → Int32 → Int32 → ST_ → ST_ × Int32
  | 0, _, r, σ => (σ, r)
  | k + 1, x, r, σ => hc_run K n k (rx_ x) (if (hc_one K n σ (rq_ n (rx_ x))).2 = 1 then r + 1 else r) (hc_one K n σ (rq_ n (rx_ x))).1
/-- on the log -/
def on_ (σ : ST_) (k : Nat) : Bool := decide (¬ σ 1 k = 0) && decide (0 < σ 2 k)
def hc_endF (σ : ST_) : Nat → Int32
  | 0 => 1
  | k + 1 => cond (on_ σ k) (if hc_endF σ k ≤ σ 2 k then σ 2 k else hc_endF σ k) (hc_endF σ k)
def hc_oldF (σ : ST_) : Nat → Int32
  | 0 => hc_endF σ 32
  | k + 1 => cond (on_ σ k) (if hc_oldF σ k ≤ σ 2 k then hc_oldF σ k else σ 2 k) (hc_oldF σ k)
def hc_find (σ : ST_) (x : Int32) : Option Nat := ff_ (fun k => on_ σ k && decide (σ 2 k = x)) 0 32
def hc_part (σ : ST_) (k : Nat) (what : Int32) : Int32 := if what = 0 then σ 4 k else if what = 1 then σ 5 k else if what = 2 then σ 6 k else σ 7 k
/-- cut: the farthest head, idle heads to it, the least, the nodes below -/
def hc_farF (σ : ST_) : Nat → Int32
  | 0 => σ 8 0
  | p + 1 => if σ 2 (ix_ (hc_farF σ p)) < σ 2 (ix_ (σ 8 p)) then σ 8 p else hc_farF σ p
def hc_bring (h : Int32) : Nat → ST_ → ST_
  | 0, σ => σ
  | p + 1, σ => if hc_bring h p σ 10 p = -1 then u2_ (hc_bring h p σ) 8 p h else hc_bring h p σ
def hc_leastF (σ : ST_) : Nat → Int32
  | 0 => σ 2 (ix_ (σ 8 0))
  | p + 1 => if hc_leastF σ p ≤ σ 2 (ix_ (σ 8 p)) then hc_leastF σ p else σ 2 (ix_ (σ 8 p))
def hc_relF (x : Int32) : Nat → ST_ → ST_ × Int32
  | 0, σ => (σ, 0)
  | k + 1, σ => if on_ (hc_relF x k σ).1 k = true ∧ (hc_relF x k σ).1 2 k < x then (u2_ (hc_relF x k σ).1 1 k 0, (hc_relF x k σ).2 + 1) else hc_relF x k σ
def hc_cut (n : Nat) (σ : ST_) : ST_ × Int32 := hc_relF (hc_leastF (hc_bring (hc_farF σ n) n σ) n) 32 (hc_bring (hc_farF σ n) n σ)
/-- spare takes over what logged holds -/
def hc_copy (σ : ST_) : ST_ := u2_ (u1_ σ 31 (σ 30)) 33 1 (σ 33 0)
end PURE_C
section PURE_M
/-! the reference: its steps on a state -/
def hm_begin (K : Nat) (ρ : ST_) : ST_ := u1_ (u2_ ρ 0 2 0) 24 (fun _ => pi_ K)
def hm_act (K : Nat) (op a b : Int32) (ρ : ST_) : ST_ := u2_ (u1_ ρ 24 (pa_ K op a b (ρ 24) (ρ 0 2)).1) 0 2 (pa_ K op a b (ρ 24) (ρ 0 2)).2.1
def hm_actR (K : Nat) (op a b : Int32) (ρ : ST_) : Int32 := (pa_ K op a b (ρ 24) (ρ 0 2)).2.2
/-- replay along j places -/
def hm_rep (K j : Nat) (ρ : ST_) : ST_ := u2_ (u1_ ρ 24 (rs_ K (ρ 21) (ρ 22) (ρ 23) j).1) 0 2 (rs_ K (ρ 21) (ρ 22) (ρ 23) j).2.1
def hm_repR (K j : Nat) (ρ : ST_) : Int32 := (rs_ K (ρ 21) (ρ 22) (ρ 23) j).2.2
def hm_call (ρ : ST_) (p : Nat) (op a b : Int32) : ST_ := u2_ (u2_ (u2_ (u2_ ρ 10 p 0) 15 p op) 16 p a) 17 p b
def hm_free (ρ : ST_) : Int32 := fd_ (fun k => decide (ρ 1 k = 0)) 32 (-1)
def hm_annS (ρ : ST_) (f : Int32) (p : Nat) : ST_ :=
  u2_ (u2_ (u2_ (u2_ (u2_ (u2_ (u2_ (u2_ (u2_ (u2_ (u2_ (u2_ ρ 1 (ix_ f) 1) 2 (ix_ f) 0) 3 (ix_ f) (-1)) 4 (ix_ f) (nI p)) 5 (ix_ f) (ρ 15 p)) 6 (ix_ f) (ρ 16 p)) 7 (ix_ f) (ρ 17 p)) 12 p f) 9 p f) 13 p (ρ 8 p)) 11 p 0) 10 p 1
def hm_ann (ρ : ST_) (p : Nat) : ST_ × Int32 := if hm_free ρ < 0 then (ρ, 3) else (hm_annS ρ (hm_free ρ) p, 0)
def hm_look (n : Nat) (ρ : ST_) (p : Nat) : ST_ :=
  u2_ (u2_ (u2_ ρ 13 p (if ρ 2 (ix_ (ρ 13 p)) < ρ 2 (ix_ (ρ 8 (ix_ (ρ 11 p)))) then ρ 8 (ix_ (ρ 11 p)) else ρ 13 p)) 11 p (ρ 11 p + 1)) 10 p (if ρ 11 p + 1 = nI n then 2 else 1)
def hm_ask (ρ : ST_) (p : Nat) : ST_ := u2_ ρ 10 p (if 0 < ρ 2 (ix_ (ρ 12 p)) then 7 else 3)
def hm_q (n : Nat) (ρ : ST_) (p : Nat) : Int32 := (ρ 2 (ix_ (ρ 13 p)) + 1) - (ρ 2 (ix_ (ρ 13 p)) + 1) / nI n * nI n
def hm_choose (n : Nat) (ρ : ST_) (p : Nat) : ST_ :=
  u2_ (u2_ ρ 14 p (if 0 ≤ ρ 9 (ix_ (hm_q n ρ p)) ∧ ρ 2 (ix_ (ρ 9 (ix_ (hm_q n ρ p)))) = 0 then ρ 9 (ix_ (hm_q n ρ p)) else ρ 12 p)) 10 p 4
def hm_prop1 (ρ : ST_) (p : Nat) : ST_ := u2_ ρ 3 (ix_ (ρ 13 p)) (if ρ 3 (ix_ (ρ 13 p)) < 0 then ρ 14 p else ρ 3 (ix_ (ρ 13 p)))
def hm_prop (ρ : ST_) (p : Nat) : ST_ := u2_ (u2_ (hm_prop1 ρ p) 14 p (hm_prop1 ρ p 3 (ix_ (ρ 13 p)))) 10 p 5
def hm_k (ρ : ST_) (p : Nat) : Int32 := ρ 2 (ix_ (ρ 13 p)) + 1
def hm_give (ρ : ST_) (p : Nat) : ST_ :=
  u2_ (u2_ (u2_ (u2_ (u2_ (u2_ ρ 2 (ix_ (ρ 14 p)) (hm_k ρ p)) 21 (ix_ (hm_k ρ p)) (ρ 5 (ix_ (ρ 14 p)))) 22 (ix_ (hm_k ρ p)) (ρ 6 (ix_ (ρ 14 p)))) 23 (ix_ (hm_k ρ p)) (ρ 7 (ix_ (ρ 14 p)))) 0 1 (if ρ 0 1 < hm_k ρ p then hm_k ρ p else ρ 0 1)) 10 p 6
def hm_move (ρ : ST_) (p : Nat) : ST_ := u2_ (u2_ (u2_ ρ 8 p (ρ 14 p)) 13 p (ρ 14 p)) 10 p 2
def hm_fin1 (K : Nat) (ρ : ST_) (p : Nat) : ST_ := hm_rep K (ix_ (ρ 2 (ix_ (ρ 12 p))) - 1) (u2_ (u2_ (u2_ ρ 8 p (ρ 12 p)) 9 p (-1)) 20 p (ρ 2 (ix_ (ρ 12 p))))
def hm_fin (K : Nat) (ρ : ST_) (p : Nat) : ST_ :=
  u2_ (u2_ (u2_ (hm_fin1 K ρ p) 19 p (hm_repR K (ix_ (ρ 2 (ix_ (ρ 12 p))) - 1) ρ)) 18 p (ρ 18 p + 1)) 10 p (-1)
def hm_one (K n : Nat) (ρ : ST_) (p : Nat) : ST_ × Int32 :=
  if ρ 10 p = -1 then (ρ, 2)
  else if ρ 10 p = 0 then hm_ann ρ p
  else if ρ 10 p = 1 then (hm_look n ρ p, 0)
  else if ρ 10 p = 2 then (hm_ask ρ p, 0)
  else if ρ 10 p = 3 then (hm_choose n ρ p, 0)
  else if ρ 10 p = 4 then (hm_prop ρ p, 0)
  else if ρ 10 p = 5 then (hm_give ρ p, 0)
  else if ρ 10 p = 6 then (hm_move ρ p, 0)
  else (hm_fin K ρ p, 1)
def hm_run (K n : Nat) : Nat → Int32 → Int32 → ST_ → ST_ × Int32
  | 0, _, r, ρ => (ρ, r)
  | k + 1, x, r, ρ => hm_run K n k (rx_ x) (if (hm_one K n ρ (rq_ n (rx_ x))).2 = 1 then r + 1 else r) (hm_one K n ρ (rq_ n (rx_ x))).1
def hm_oldF (ρ : ST_) : Nat → Int32
  | 0 => 0
  | k + 1 => cond (on_ ρ k && (decide (hm_oldF ρ k = 0) || decide (ρ 2 k < hm_oldF ρ k))) (ρ 2 k) (hm_oldF ρ k)
def hm_findF (ρ : ST_) (x : Int32) : Nat → Int32
  | 0 => -1
  | k + 1 => cond (decide (¬ ρ 1 k = 0) && decide (0 < x) && decide (ρ 2 k = x)) (nI k) (hm_findF ρ x k)
def hm_part (ρ : ST_) (k : Nat) (what : Int32) : Int32 := if what = 0 then ρ 4 k else if what = 1 then ρ 5 k else if what = 2 then ρ 6 k else ρ 7 k
def hm_used (ρ : ST_) : Int32 := ct_ (fun k => decide (¬ ρ 1 k = 0)) 32
/-- p from 1 on -/
def hm_farF (ρ : ST_) : Nat → Int32
  | 0 => 0
  | p + 1 => if ρ 2 (ix_ (ρ 8 (ix_ (hm_farF ρ p)))) < ρ 2 (ix_ (ρ 8 (p + 1))) then nI (p + 1) else hm_farF ρ p
def hm_bring (h : Int32) : Nat → ST_ × Int32 → ST_ × Int32
  | 0, x => x
  | p + 1, x =>
    (u2_ (hm_bring h p x).1 8 p (if (hm_bring h p x).1 10 p = -1 then h else (hm_bring h p x).1 8 p),
     if (hm_bring h p x).1 2 (ix_ (if (hm_bring h p x).1 10 p = -1 then h else (hm_bring h p x).1 8 p)) < (hm_bring h p x).2
     then (hm_bring h p x).1 2 (ix_ (if (hm_bring h p x).1 10 p = -1 then h else (hm_bring h p x).1 8 p)) else (hm_bring h p x).2)
def hm_relF (x : Int32) : Nat → ST_ → ST_
  | 0, ρ => ρ
  | k + 1, ρ => if on_ (hm_relF x k ρ) k = true ∧ hm_relF x k ρ 2 k < x then u2_ (hm_relF x k ρ) 1 k 0 else hm_relF x k ρ
end PURE_M
end
section
section CALL_A
/-- words that are carried beside the tables' good ones -/
def nk_ : Cond → Bool
  | .methodLinkNest _ _ _ _ => true
  | .fieldLinkNest _ _ _ _ _ _ => true
  | .declares _ => true
  | w => goodWord w
theorem nk_warm {w : Cond} (h : nk_ w = true) {s U : State} (hW : s.WarmedH U.vm) (hZ : va_Nw w s) : va_Nw w U := by
  unfold nk_ at h
  split at h
  · exact va_Nw.warmM hW hZ
  · exact va_Nw.warmF hW hZ
  · exact va_Nw.warmD hW hZ
  · exact word_at hW (good_of_word h) hZ
def NW_ (nw : List Cond) (U : State) : Prop := (∀ w ∈ nw, nk_ w = true) ∧ ∀ w ∈ nw, va_Nw w U
theorem NW_warm {nw : List Cond} {s U : State} (hW : s.WarmedH U.vm) (h : NW_ nw s) : NW_ nw U := ⟨h.1, fun w hw => nk_warm (h.1 w hw) hW (h.2 w hw)⟩
/-- what a method is called with, and what it leaves -/
def Pd_ (D : va_G) (cl : List vw_C) (tys : List (ClassId × FieldType)) (A : Nat → Prop) (nw : List Cond) (w : va_W) (U : State) : Prop := va_P D cl w U.heap ∧ va_D A w ∧ va_K D cl tys U ∧ NW_ nw U
def Qd_ (D : va_G) (cl : List vw_C) (A : Nat → Prop) (w' : va_W) (r : Option Value) : Array Value → State → Outcome → State → Prop := fun _ st oc t => oc = .returned r ∧ va_P D cl w' t.heap ∧ va_D A w' ∧ va_F A st t
/-- the contract: called with av over the world w, it answers r and leaves the world w' -/
def Ct_ (l : Launch) (D : va_G) (cl : List vw_C) (tys : List (ClassId × FieldType)) (A : Nat → Prop) (nw : List Cond) (y : MethodName) (ws : List Cond) (rm : Room) (av : List Value) (w w' : va_W) (r : Option Value) : Prop :=
  Met l y ws rm (va_Pc av (Pd_ D cl tys A nw w)) (Qd_ D cl A w' r) 0 0 A
theorem Pd_blind {D : va_G} {cl : List vw_C} {tys : List (ClassId × FieldType)} {A : Nat → Prop} {nw : List Cond} {av : List Value} {w : va_W} : FrameBlind (va_Pc av (Pd_ D cl tys A nw w)) :=
  fun a U g mk h => ⟨h.1, h.2.1, h.2.2.1, va_K.moved (u := U) (U := U.calling g mk a) (Vm.Alike.refl U.vm) h.2.2.2.1, NW_warm (U := U.calling g mk a) (State.WarmedH.refl U) h.2.2.2.2⟩
/-- a room for d frames -/
def rm_d (d : Nat) : Room := { frames := d, cells := 0, slots := 0, locals := 30 * d }
end CALL_A
section CALL_B
variable {p : Program} {l : Launch} {e : Env} {R : Room} {s : State} {m : MethodId} {args : Array Value} {below : List Frame} {meth : Method} {c : Code} {D : va_G} {cl : List vw_C} {A : Nat → Prop} {nL cells slots : Nat} {Q : State → Prop} {w w' : va_W}
variable {cc : ByteArray} {own : String} {tys : List (ClassId × FieldType)} {TS : List Cond} {pc : Nat} {L : List (Nat × Value)} {rest : List Value} {nw : List Cond} {r : Option Value}
theorem go_run {st0 : List Value} {a : Array Value}
    (hr : ∀ (H : Heap) (locs : List Loc) (ls : Array Slot), va_P D cl w H → va_D A w → lh_ ls nL L → va_Run p l e R s m args below meth c H locs cells slots 0 0 (F0 m pc ls st0) rest (Qd_ D cl A w' r a) A)
    (k : Go_ p l e R s m args below meth c D cl A nL cells slots Q w' (pc + 3) L (r.toList ++ rest)) : Go_ p l e R s m args below meth c D cl A nL cells slots Q w pc L st0 := by
  intro H locs ls hP hD hS hl T hT X
  obtain ⟨v, st₀, t, T', L', h0, X', hL, e1, e2, ⟨hoc, hP', hD', hF⟩, st⟩ := hr H locs ls hP hD hl T hT X
  cases hoc
  obtain ⟨hz, hk⟩ := hF
  rw [h0] at hz hk
  have hS' : va_S A s.heap T'.heap (locs ++ L') := by
    refine ⟨Nat.le_trans hS.1 (by rw [e1]; exact hz), fun q h1 h2 => ?_, fun q hq => ?_⟩
    · rw [e1, hk q (Nat.lt_of_lt_of_le h1 hS.1) h2]
      exact hS.2.1 q h1 h2
    · rcases List.mem_append.mp hq with h | h
      · exact hS.2.2 q h
      · exact hL q h
  obtain ⟨t2, a1, b1⟩ := k T'.heap (locs ++ L') ls (by rw [e1]; exact hP') hD' hS' hl T' rfl X'
  exact ⟨t2, st t2 a1, b1⟩
/-- into a method -/
theorem go_enter {y : MethodName} {ws ws' : List Cond} {rm : Room} {av : List Value} {maxL : Nat} {ret : Option FieldType} (hy : plainName y.cls = true) (hw : ws = Cond.code y cc maxL ret :: ws') (hav : (lg_sl av).length ≤ maxL) (hcat : ∀ q ∈ lv_args 0 av, q.2.category = 1)
    (body : ∀ p e s m args below meth c, Cx_ p l e rm s m args below meth c cc maxL y.cls D cl tys ws → meth.sig.returnType = ret → meth.name = y.name → NW_ nw s →
      Go_ p l e rm s m args below meth c D cl A maxL 0 0 (MQ below (Qd_ D cl A w' r) args s 0 0 A) w 0 (lv_args 0 av) []) : Ct_ l D cl tys A nw y ws rm av w w' r := by
  refine Met.ofW (cc := cc) (maxL := maxL) (ret := ret) hy hw ?_
  intro p e s m args below meth c s₁ B hml hv
  obtain ⟨hargs, hP, hD, hK, hN⟩ := hv
  have hl := lv_entry av (n := maxL) hav
  rw [hargs, lg_entry_eq]
  have X : Cx_ p l e rm s m args below meth c cc maxL y.cls D cl tys ws := ⟨B.exec, B.bytes, hml, findClass_of_methodNamed B.named, atoms_spec (ws := ws) B.pre, hK, B.notSynchronized⟩
  have k := body p e s m args below meth c X B.returns (name_of_methodNamed B.named B.method).1 hN s.heap [] _ hP hD va_S.rf ⟨hl, hcat⟩
  rw [hargs] at k
  exact k
theorem go_iret (X : Cx_ p l e R s m args below meth c cc nL own D cl tys TS) {v : Int32} (hr : meth.sig.returnType = some .int) (d : decode cc pc = .ok (.ireturn, 1)) (hw : w = w') (hv : some (.int v) = r) : Go_ p l e R s m args below meth c D cl A nL cells slots (MQ below (Qd_ D cl A w' r) args s cells slots A) w pc L [.int v] := by
  subst hw; subst hv
  intro H locs ls hP hD hS hl
  exact W.iret X.1 X.2.1 hr (fun t ht hW => ⟨rfl, by rw [ht]; exact hP, hD, hS.F ht⟩) hS.2.2 d X.2.2.2.2.2.2
theorem go_zret (X : Cx_ p l e R s m args below meth c cc nL own D cl tys TS) {v : Int32} (hr : meth.sig.returnType = some .boolean) (hn : narrow .boolean (.int v) = .int v) (d : decode cc pc = .ok (.ireturn, 1)) (hw : w = w') (hv : some (.int v) = r) : Go_ p l e R s m args below meth c D cl A nL cells slots (MQ below (Qd_ D cl A w' r) args s cells slots A) w pc L [.int v] := by
  subst hw; subst hv
  intro H locs ls hP hD hS hl
  exact W.zret X.1 X.2.1 hr hn (fun t ht hW => ⟨rfl, by rw [ht]; exact hP, hD, hS.F ht⟩) hS.2.2 d X.2.2.2.2.2.2
theorem go_vret (X : Cx_ p l e R s m args below meth c cc nL own D cl tys TS) (hr : meth.sig.returnType = none) (d : decode cc pc = .ok (.return_, 1)) (hw : w = w') (hv : none = r) : Go_ p l e R s m args below meth c D cl A nL cells slots (MQ below (Qd_ D cl A w' r) args s cells slots A) w pc L [] := by
  subst hw; subst hv
  intro H locs ls hP hD hS hl
  exact W.vret X.1 X.2.1 hr (fun t ht hW => ⟨rfl, by rw [ht]; exact hP, hD, hS.F ht⟩) hS.2.2 d X.2.2.2.2.2.2
theorem go_aret (X : Cx_ p l e R s m args below meth c cc nL own D cl tys TS) {v : Value} {n : String} (hr : meth.sig.returnType = some (.object n)) (hv0 : v = .null ∨ ∃ a, v = .ref a) (d : decode cc pc = .ok (.areturn, 1)) (hw : w = w') (hv : some v = r) : Go_ p l e R s m args below meth c D cl A nL cells slots (MQ below (Qd_ D cl A w' r) args s cells slots A) w pc L [v] := by
  subst hw; subst hv
  intro H locs ls hP hD hS hl
  exact W.aret X.1 X.2.1 hr (Or.inl ⟨n, rfl⟩) hv0 (fun t ht hW => ⟨rfl, by rw [ht]; exact hP, hD, hS.F ht⟩) hS.2.2 d X.2.2.2.2.2.2
end CALL_B
end
section
section INV_A
abbrev TZ_ : Type := Nat → Nat → Int
/-- a process whose call has no place yet -/
def in_ (τ : TZ_) (p : Nat) : Int := if τ 10 p = 0 ∨ (1 ≤ τ 10 p ∧ τ 2 (τ 12 p).toNat = 0) then 1 else 0
def pd_ (τ : TZ_) : Nat → Int
  | 0 => 0
  | p + 1 => pd_ τ p + in_ τ p
theorem pd_eq {τ τ' : TZ_} : ∀ {n : Nat}, (∀ q, q < n → in_ τ' q = in_ τ q) → pd_ τ' n = pd_ τ n := by
  intro n
  induction n with
  | zero => intro _; rfl
  | succ n ih => intro h; unfold pd_; rw [ih (fun q hq => h q (by omega)), h n (by omega)]
theorem pd_one {τ τ' : TZ_} {p : Nat} : ∀ {n : Nat}, p < n → (∀ q, q < n → q ≠ p → in_ τ' q = in_ τ q) → pd_ τ' n = pd_ τ n + in_ τ' p - in_ τ p := by
  intro n
  induction n with
  | zero => intro h; omega
  | succ n ih =>
    intro h hq
    unfold pd_
    by_cases hp : p = n
    · subst hp
      rw [pd_eq (fun q h1 => hq q (by omega) (by omega))]
      omega
    · rw [ih (by omega) (fun q h1 h2 => hq q (by omega) h2), hq n (by omega) (fun z => hp z.symm)]
      omega
theorem in_01 (τ : TZ_) (p : Nat) : 0 ≤ in_ τ p ∧ in_ τ p ≤ 1 := by
  unfold in_
  split <;> omega
theorem pd_ge {τ : TZ_} {p : Nat} : ∀ {n : Nat}, p < n → in_ τ p ≤ pd_ τ n ∧ 0 ≤ pd_ τ n := by
  have hz : ∀ n, 0 ≤ pd_ τ n := by
    intro n
    induction n with
    | zero => exact Int.le_refl _
    | succ n ih => unfold pd_; have := in_01 τ n; omega
  intro n
  induction n with
  | zero => intro h; omega
  | succ n ih =>
    intro h
    refine ⟨?_, hz _⟩
    unfold pd_
    by_cases hp : p = n
    · subst hp
      have := hz p
      omega
    · have h1 := (ih (by omega)).1
      have h2 := in_01 τ n
      omega
/-- of a process -/
def Ip_ (n : Nat) (τ : TZ_) (p : Nat) : Prop :=
  (0 ≤ τ 8 p ∧ τ 8 p < 32) ∧ (0 ≤ τ 12 p ∧ τ 12 p < 32) ∧ (0 ≤ τ 13 p ∧ τ 13 p < 32) ∧ (0 ≤ τ 14 p ∧ τ 14 p < 32) ∧
  (-1 ≤ τ 10 p ∧ τ 10 p ≤ 7) ∧ (0 ≤ τ 11 p ∧ τ 11 p ≤ n) ∧
  (τ 1 (τ 8 p).toNat = 1 ∧ 1 ≤ τ 2 (τ 8 p).toNat) ∧
  (τ 10 p < 1 → τ 9 p = -1) ∧
  (1 ≤ τ 10 p → τ 9 p = τ 12 p ∧ τ 1 (τ 12 p).toNat = 1 ∧ τ 4 (τ 12 p).toNat = p ∧ τ 1 (τ 13 p).toNat = 1 ∧ τ 2 (τ 8 p).toNat ≤ τ 2 (τ 13 p).toNat ∧ (τ 2 (τ 12 p).toNat = 0 ∨ τ 2 (τ 8 p).toNat ≤ τ 2 (τ 12 p).toNat)) ∧
  (τ 10 p = 1 → τ 11 p < n) ∧
  (3 ≤ τ 10 p → τ 10 p ≤ 6 → τ 2 (τ 12 p).toNat = 0 ∨ τ 2 (τ 13 p).toNat < τ 2 (τ 12 p).toNat) ∧
  (τ 10 p = 4 → τ 1 (τ 14 p).toNat = 1 ∧ (τ 2 (τ 14 p).toNat = 0 ∨ τ 2 (τ 13 p).toNat < τ 2 (τ 14 p).toNat)) ∧
  (5 ≤ τ 10 p → τ 10 p ≤ 6 → τ 14 p = τ 3 (τ 13 p).toNat) ∧
  (τ 10 p = 6 → τ 2 (τ 14 p).toNat = τ 2 (τ 13 p).toNat + 1) ∧
  (τ 10 p = 7 → 1 ≤ τ 2 (τ 12 p).toNat)
/-- of a node in use -/
def Iu_ (n : Nat) (τ : TZ_) (k : Nat) : Prop :=
  0 ≤ τ 2 k ∧ τ 2 k ≤ τ 0 1 ∧
  (τ 2 k = 0 → τ 3 k = -1 ∧ ∃ p, p < n ∧ 1 ≤ τ 10 p ∧ τ 12 p = k) ∧
  (1 ≤ τ 2 k → τ 3 k = -1 → τ 2 k = τ 0 1) ∧
  (1 ≤ τ 2 k → 0 ≤ τ 3 k → τ 1 (τ 3 k).toNat = 1 ∧ (τ 2 (τ 3 k).toNat = τ 2 k + 1 ∨ (τ 2 (τ 3 k).toNat = 0 ∧ τ 2 k = τ 0 1))) ∧
  (τ 2 k = 1 → τ 4 k = -1)
def In_ (n : Nat) (τ : TZ_) (k : Nat) : Prop :=
  (τ 1 k = 0 ∨ τ 1 k = 1) ∧ (-1 ≤ τ 3 k ∧ τ 3 k < 32) ∧ (τ 1 k = 1 → Iu_ n τ k)
/-- the numbers are apart -/
def Iq_ (τ : TZ_) : Prop := ∀ j k, j < 32 → k < 32 → τ 1 j = 1 → τ 1 k = 1 → τ 2 j = τ 2 k → 1 ≤ τ 2 j → j = k
def Iv_ (n c : Nat) (τ : TZ_) : Prop :=
  (∀ p, p < n → Ip_ n τ p) ∧ (∀ k, k < 32 → In_ n τ k) ∧ Iq_ τ ∧ 1 ≤ τ 0 1 ∧ (∃ k, k < 32 ∧ τ 1 k = 1 ∧ τ 2 k = τ 0 1) ∧ τ 0 1 + pd_ τ n ≤ 1 + c
theorem iv_congr {n c : Nat} {τ τ' : TZ_} (h : Iv_ n c τ) (g0 : τ' 0 1 = τ 0 1) (g1 : τ' 1 = τ 1) (g2 : τ' 2 = τ 2) (g3 : τ' 3 = τ 3) (g4 : τ' 4 = τ 4) (g8 : τ' 8 = τ 8) (g9 : τ' 9 = τ 9) (g10 : τ' 10 = τ 10) (g11 : τ' 11 = τ 11) (g12 : τ' 12 = τ 12) (g13 : τ' 13 = τ 13) (g14 : τ' 14 = τ 14) : Iv_ n c τ' := by
  have hpd : pd_ τ' n = pd_ τ n := pd_eq (fun q _ => by unfold in_; rw [g10, g2, g12])
  unfold Iv_ Iq_
  rw [g0, g1, g2, hpd]
  refine ⟨fun p hp => ?_, fun k hk => ?_, h.2.2⟩
  · have := h.1 p hp
    unfold Ip_ at this ⊢
    rw [g1, g2, g3, g4, g8, g9, g10, g11, g12, g13, g14]
    exact this
  · have := h.2.1 k hk
    unfold In_ Iu_ at this ⊢
    rw [g0, g1, g2, g3, g4, g10, g12]
    exact this
/-- a step of p that touches its own row alone -/
theorem iv_proc {n c p : Nat} {τ τ' : TZ_} (h : Iv_ n c τ) (g0 : τ' 0 1 = τ 0 1) (g1 : τ' 1 = τ 1) (g2 : τ' 2 = τ 2) (g3 : τ' 3 = τ 3) (g4 : τ' 4 = τ 4) (hq : ∀ q, q ≠ p → τ' 8 q = τ 8 q ∧ τ' 9 q = τ 9 q ∧ τ' 10 q = τ 10 q ∧ τ' 11 q = τ 11 q ∧ τ' 12 q = τ 12 q ∧ τ' 13 q = τ 13 q ∧ τ' 14 q = τ 14 q)
    (h12 : τ' 12 p = τ 12 p) (ha : 1 ≤ τ 10 p) (ha' : 1 ≤ τ' 10 p) (hp : Ip_ n τ' p) : Iv_ n c τ' := by
  have g12 : τ' 12 = τ 12 := by
    funext q
    by_cases e : q = p
    · rw [e]; exact h12
    · exact (hq q e).2.2.2.2.1
  have hact : ∀ q, (1 ≤ τ' 10 q ↔ 1 ≤ τ 10 q) ∧ (τ' 10 q = 0 ↔ τ 10 q = 0) := by
    intro q
    by_cases e : q = p
    · rw [e]; omega
    · rw [(hq q e).2.2.1]; exact ⟨Iff.rfl, Iff.rfl⟩
  have hpd : pd_ τ' n = pd_ τ n := pd_eq (fun q _ => by
    unfold in_
    rw [g2, g12]
    obtain ⟨e1, e2⟩ := hact q
    by_cases a : τ 10 q = 0 ∨ (1 ≤ τ 10 q ∧ τ 2 (τ 12 q).toNat = 0)
    · rw [if_pos a, if_pos (by rcases a with a | a; exact Or.inl (e2.mpr a); exact Or.inr ⟨e1.mpr a.1, a.2⟩)]
    · rw [if_neg a, if_neg (fun b => a (by rcases b with b | b; exact Or.inl (e2.mp b); exact Or.inr ⟨e1.mp b.1, b.2⟩))])
  unfold Iv_ Iq_
  rw [g0, g1, g2, hpd]
  refine ⟨fun q hq1 => ?_, fun k hk => ?_, h.2.2⟩
  · by_cases e : q = p
    · rw [e]; exact hp
    · have := h.1 q hq1
      obtain ⟨a8, a9, a10, a11, a12, a13, a14⟩ := hq q e
      unfold Ip_ at this ⊢
      rw [g1, g2, g3, g4, a8, a9, a10, a11, a12, a13, a14]
      exact this
  · have := h.2.1 k hk
    unfold In_ Iu_ at this ⊢
    rw [g0, g1, g2, g3, g4, g12]
    refine ⟨this.1, this.2.1, fun hu => ?_⟩
    obtain ⟨b1, b2, b3, b4, b5, b6⟩ := this.2.2 hu
    refine ⟨b1, b2, fun hz => ?_, b4, b5, b6⟩
    obtain ⟨d1, o, d2, d3, d4⟩ := b3 hz
    exact ⟨d1, o, d2, (hact o).1.mpr d3, d4⟩
end INV_A
section INV_B
variable {n c p : Nat} {τ τ' : TZ_}
/-- a call is made -/
theorem iv_call (h : Iv_ n c τ) (hp : p < n) (hs : τ 10 p = -1) (g0 : τ' 0 1 = τ 0 1) (g1 : τ' 1 = τ 1) (g2 : τ' 2 = τ 2) (g3 : τ' 3 = τ 3) (g4 : τ' 4 = τ 4) (g8 : τ' 8 = τ 8) (g9 : τ' 9 = τ 9) (g10 : ∀ q, τ' 10 q = if q = p then 0 else τ 10 q) (g11 : τ' 11 = τ 11) (g12 : τ' 12 = τ 12) (g13 : τ' 13 = τ 13) (g14 : τ' 14 = τ 14) : Iv_ n (c + 1) τ' := by
  obtain ⟨hP, hN, hU, hE, hX, hC⟩ := h
  have e10 : τ' 10 p = 0 := by rw [g10, if_pos rfl]
  have n10 : ∀ q, q ≠ p → τ' 10 q = τ 10 q := fun q e => by rw [g10, if_neg e]
  have hpd : pd_ τ' n = pd_ τ n + in_ τ' p - in_ τ p := pd_one hp (fun q _ e => by unfold in_; rw [n10 q e, g2, g12])
  have hi := in_01 τ' p
  have hi2 := in_01 τ p
  unfold Iv_ Iq_
  rw [g0, g1, g2]
  refine ⟨fun q hq => ?_, fun k hk => ?_, hU, hE, hX, by omega⟩
  · have := hP q hq
    unfold Ip_ at this ⊢
    rw [g1, g2, g3, g4, g8, g9, g11, g12, g13, g14]
    by_cases e : q = p
    · subst e
      rw [e10]
      obtain ⟨a1, a2, a3, a4, a5, a6, a7, a8, a9⟩ := this
      exact ⟨a1, a2, a3, a4, by omega, a6, a7, fun _ => a8 (by omega), by omega, by omega, by omega, by omega, by omega, by omega, by omega⟩
    · rw [n10 q e]; exact this
  · have := hN k hk
    unfold In_ Iu_ at this ⊢
    rw [g0, g1, g2, g3, g4, g12]
    refine ⟨this.1, this.2.1, fun hu => ?_⟩
    obtain ⟨b1, b2, b3, b4, b5, b6⟩ := this.2.2 hu
    refine ⟨b1, b2, fun hz => ?_, b4, b5, b6⟩
    obtain ⟨d1, o, d2, d3, d4⟩ := b3 hz
    refine ⟨d1, o, d2, ?_, d4⟩
    rw [n10 o (fun e => by rw [e] at d3; omega)]
    exact d3
/-- a call is done -/
theorem iv_fin (h : Iv_ n c τ) (hp : p < n) (hs : τ 10 p = 7) (g0 : τ' 0 1 = τ 0 1) (g1 : τ' 1 = τ 1) (g2 : τ' 2 = τ 2) (g3 : τ' 3 = τ 3) (g4 : τ' 4 = τ 4) (g8 : ∀ q, τ' 8 q = if q = p then τ 12 p else τ 8 q) (g9 : ∀ q, τ' 9 q = if q = p then -1 else τ 9 q) (g10 : ∀ q, τ' 10 q = if q = p then -1 else τ 10 q) (g11 : τ' 11 = τ 11) (g12 : τ' 12 = τ 12) (g13 : τ' 13 = τ 13) (g14 : τ' 14 = τ 14) : Iv_ n c τ' := by
  obtain ⟨hP, hN, hU, hE, hX, hC⟩ := h
  have e10 : τ' 10 p = -1 := by rw [g10, if_pos rfl]
  have e9 : τ' 9 p = -1 := by rw [g9, if_pos rfl]
  have e8 : τ' 8 p = τ 12 p := by rw [g8, if_pos rfl]
  have n10 : ∀ q, q ≠ p → τ' 10 q = τ 10 q := fun q e => by rw [g10, if_neg e]
  have n9 : ∀ q, q ≠ p → τ' 9 q = τ 9 q := fun q e => by rw [g9, if_neg e]
  have n8 : ∀ q, q ≠ p → τ' 8 q = τ 8 q := fun q e => by rw [g8, if_neg e]
  have hPp := hP p hp
  unfold Ip_ at hPp
  obtain ⟨a1, a2, a3, a4, a5, a6, a7, a8, a9, a10, a11, a12, a13, a14, a15⟩ := hPp
  have own1 := a15 hs
  have hpd : pd_ τ' n = pd_ τ n := by
    rw [pd_one hp (fun q _ e => by unfold in_; rw [n10 q e, g2, g12])]
    unfold in_
    rw [e10, hs, if_neg (by omega), if_neg (by omega)]
    omega
  unfold Iv_ Iq_
  rw [g0, g1, g2, hpd]
  refine ⟨fun q hq => ?_, fun k hk => ?_, hU, hE, hX, hC⟩
  · have := hP q hq
    unfold Ip_ at this ⊢
    rw [g1, g2, g3, g4, g11, g12, g13, g14]
    by_cases e : q = p
    · subst e
      rw [e10, e9, e8]
      exact ⟨a2, a2, a3, a4, by omega, a6, ⟨(a9 (by omega)).2.1, own1⟩, fun _ => rfl, by omega, by omega, by omega, by omega, by omega, by omega, by omega⟩
    · rw [n10 q e, n9 q e, n8 q e]; exact this
  · have := hN k hk
    unfold In_ Iu_ at this ⊢
    rw [g0, g1, g2, g3, g4, g12]
    refine ⟨this.1, this.2.1, fun hu => ?_⟩
    obtain ⟨b1, b2, b3, b4, b5, b6⟩ := this.2.2 hu
    refine ⟨b1, b2, fun hz => ?_, b4, b5, b6⟩
    obtain ⟨d1, o, d2, d3, d4⟩ := b3 hz
    refine ⟨d1, o, d2, ?_, d4⟩
    rw [n10 o (fun e => ?_)]
    · exact d3
    · rw [e] at d4
      have : (τ 12 p).toNat = k := by omega
      rw [this] at own1
      omega
/-- a free node is announced -/
theorem iv_ann {k0 : Nat} (h : Iv_ n c τ) (hp : p < n) (hs : τ 10 p = 0) (hk0 : k0 < 32) (hf : τ 1 k0 = 0) (g0 : τ' 0 1 = τ 0 1) (g1 : ∀ k, τ' 1 k = if k = k0 then 1 else τ 1 k) (g2 : ∀ k, τ' 2 k = if k = k0 then 0 else τ 2 k) (g3 : ∀ k, τ' 3 k = if k = k0 then -1 else τ 3 k) (g4 : ∀ k, τ' 4 k = if k = k0 then (p : Int) else τ 4 k)
    (g8 : τ' 8 = τ 8) (g9 : ∀ q, τ' 9 q = if q = p then (k0 : Int) else τ 9 q) (g10 : ∀ q, τ' 10 q = if q = p then 1 else τ 10 q) (g11 : ∀ q, τ' 11 q = if q = p then 0 else τ 11 q) (g12 : ∀ q, τ' 12 q = if q = p then (k0 : Int) else τ 12 q) (g13 : ∀ q, τ' 13 q = if q = p then τ 8 p else τ 13 q) (g14 : τ' 14 = τ 14) : Iv_ n c τ' := by
  obtain ⟨hP, hN, hU, hE, hX, hC⟩ := h
  -- places in use are not k0
  have nk : ∀ {k : Nat}, τ 1 k = 1 → k ≠ k0 := fun {k} h1 e => by rw [e] at h1; omega
  have u1 : ∀ {k : Nat}, τ 1 k = 1 → τ' 1 k = 1 := fun {k} h1 => by rw [g1, if_neg (nk h1)]; exact h1
  have u2 : ∀ {k : Nat}, τ 1 k = 1 → τ' 2 k = τ 2 k := fun {k} h1 => by rw [g2, if_neg (nk h1)]
  have u3 : ∀ {k : Nat}, τ 1 k = 1 → τ' 3 k = τ 3 k := fun {k} h1 => by rw [g3, if_neg (nk h1)]
  have u4 : ∀ {k : Nat}, τ 1 k = 1 → τ' 4 k = τ 4 k := fun {k} h1 => by rw [g4, if_neg (nk h1)]
  have e9 : τ' 9 p = k0 := by rw [g9, if_pos rfl]
  have e10 : τ' 10 p = 1 := by rw [g10, if_pos rfl]
  have e11 : τ' 11 p = 0 := by rw [g11, if_pos rfl]
  have e12 : τ' 12 p = k0 := by rw [g12, if_pos rfl]
  have e13 : τ' 13 p = τ 8 p := by rw [g13, if_pos rfl]
  have n9 : ∀ q, q ≠ p → τ' 9 q = τ 9 q := fun q e => by rw [g9, if_neg e]
  have n10 : ∀ q, q ≠ p → τ' 10 q = τ 10 q := fun q e => by rw [g10, if_neg e]
  have n11 : ∀ q, q ≠ p → τ' 11 q = τ 11 q := fun q e => by rw [g11, if_neg e]
  have n12 : ∀ q, q ≠ p → τ' 12 q = τ 12 q := fun q e => by rw [g12, if_neg e]
  have n13 : ∀ q, q ≠ p → τ' 13 q = τ 13 q := fun q e => by rw [g13, if_neg e]
  have k1 : τ' 1 k0 = 1 := by rw [g1, if_pos rfl]
  have k2 : τ' 2 k0 = 0 := by rw [g2, if_pos rfl]
  have k3 : τ' 3 k0 = -1 := by rw [g3, if_pos rfl]
  have k4 : τ' 4 k0 = p := by rw [g4, if_pos rfl]
  have hpd : pd_ τ' n = pd_ τ n := by
    rw [pd_one (τ := τ) (τ' := τ') hp (fun q hq e => ?_)]
    · unfold in_
      rw [e10, e12, hs, show ((k0 : Int)).toNat = k0 by omega, k2, if_pos (by omega), if_pos (by omega)]
      omega
    · unfold in_
      rw [n10 q e, n12 q e]
      by_cases a : 1 ≤ τ 10 q
      · have h9 := hP q hq
        unfold Ip_ at h9
        rw [u2 (h9.2.2.2.2.2.2.2.2.1 a).2.1]
      · by_cases b : τ 10 q = 0
        · rw [if_pos (Or.inl b), if_pos (Or.inl b)]
        · rw [if_neg (by omega), if_neg (by omega)]
  refine ⟨fun q hq => ?_, fun k hk => ?_, ?_, by rw [g0]; exact hE, ?_, by rw [g0, hpd]; exact hC⟩
  · have h9 := hP q hq
    unfold Ip_ at h9
    obtain ⟨a1, a2, a3, a4, a5, a6, a7, a8, a9, a10, a11, a12, a13, a14, a15⟩ := h9
    unfold Ip_
    by_cases e : q = p
    · subst e
      rw [e9, e10, e11, e12, e13, g8, g14, show ((k0 : Int)).toNat = k0 by omega, k1, k2, k4, u1 a7.1, u2 a7.1]
      exact ⟨a1, by omega, a1, a4, by omega, by omega, ⟨rfl, a7.2⟩, by omega, fun _ => ⟨rfl, rfl, rfl, rfl, Int.le_refl _, Or.inl rfl⟩, fun _ => by omega, by omega, by omega, by omega, by omega, by omega⟩
    · rw [n9 q e, n10 q e, n11 q e, n12 q e, n13 q e, g8, g14, u1 a7.1, u2 a7.1]
      refine ⟨a1, a2, a3, a4, a5, a6, ⟨rfl, a7.2⟩, a8, fun ha => ?_, a10, fun h3 h6 => ?_, fun h4 => ?_, fun h5 h6 => ?_, fun h6 => ?_, fun h7 => ?_⟩
      · obtain ⟨b1, b2, b3, b4, b5, b6⟩ := a9 ha
        rw [u1 b2, u4 b2, u1 b4, u2 b2, u2 b4]
        exact ⟨b1, rfl, b3, rfl, b5, b6⟩
      · obtain ⟨b1, b2, b3, b4, b5, b6⟩ := a9 (by omega)
        rw [u2 b2, u2 b4]
        exact a11 h3 h6
      · obtain ⟨b1, b2, b3, b4, b5, b6⟩ := a9 (by omega)
        obtain ⟨d1, d2⟩ := a12 h4
        rw [u1 d1, u2 d1, u2 b4]
        exact ⟨rfl, d2⟩
      · obtain ⟨b1, b2, b3, b4, b5, b6⟩ := a9 (by omega)
        rw [u3 b4]
        exact a13 h5 h6
      · obtain ⟨b1, b2, b3, b4, b5, b6⟩ := a9 (by omega)
        have d1 := a13 (by omega) (by omega)
        have hb := hN _ (show (τ 13 q).toNat < 32 by omega)
        unfold In_ Iu_ at hb
        have d2 := ((hb.2.2 b4).2.2.2.2.1 (by omega) (by omega)).1
        rw [← d1] at d2
        rw [u2 d2, u2 b4]
        exact a14 h6
      · obtain ⟨b1, b2, b3, b4, b5, b6⟩ := a9 (by omega)
        rw [u2 b2]
        exact a15 h7
  · have h9 := hN k hk
    unfold In_ Iu_ at h9 ⊢
    by_cases e : k = k0
    · subst e
      rw [k1, k2, k3, k4, g0]
      exact ⟨Or.inr rfl, by omega, fun _ => ⟨by omega, by omega, fun _ => ⟨rfl, p, hp, by rw [e10]; omega, e12⟩, by omega, by omega, by omega⟩⟩
    · rw [g1 k, g2 k, g3 k, g4 k, if_neg e, if_neg e, if_neg e, if_neg e, g0]
      refine ⟨h9.1, h9.2.1, fun hu => ?_⟩
      obtain ⟨b1, b2, b3, b4, b5, b6⟩ := h9.2.2 hu
      refine ⟨b1, b2, fun hz => ?_, b4, fun h1 h2 => ?_, b6⟩
      · obtain ⟨d1, o, d2, d3, d4⟩ := b3 hz
        have ho : o ≠ p := fun q => by rw [q] at d3; omega
        exact ⟨d1, o, d2, by rw [n10 o ho]; exact d3, by rw [n12 o ho]; exact d4⟩
      · obtain ⟨d1, d2⟩ := b5 h1 h2
        rw [u1 d1, u2 d1]
        exact ⟨rfl, d2⟩
  · intro j k hj hk h1 h2 h3 h4
    have e1 : j ≠ k0 := fun q => by rw [q, k2] at h4; omega
    have e2 : k ≠ k0 := fun q => by rw [q, k2] at h3; omega
    rw [g1, if_neg e1] at h1
    rw [g1, if_neg e2] at h2
    rw [g2 j, g2 k, if_neg e1, if_neg e2] at h3
    rw [g2 j, if_neg e1] at h4
    exact hU j k hj hk h1 h2 h3 h4
  · obtain ⟨k, x1, x2, x3⟩ := hX
    exact ⟨k, x1, u1 x2, by rw [u2 x2, g0]; exact x3⟩
/-- a cell is filled -/
theorem iv_prop (h : Iv_ n c τ) (hp : p < n) (hs : τ 10 p = 4) (hc : τ 3 (τ 13 p).toNat < 0) (g0 : τ' 0 1 = τ 0 1) (g1 : τ' 1 = τ 1) (g2 : τ' 2 = τ 2) (g3 : ∀ k, τ' 3 k = if k = (τ 13 p).toNat then τ 14 p else τ 3 k) (g4 : τ' 4 = τ 4) (g8 : τ' 8 = τ 8) (g9 : τ' 9 = τ 9) (g10 : ∀ q, τ' 10 q = if q = p then 5 else τ 10 q) (g11 : τ' 11 = τ 11) (g12 : τ' 12 = τ 12) (g13 : τ' 13 = τ 13) (g14 : τ' 14 = τ 14) : Iv_ n c τ' := by
  have hP := h.1
  have hN := h.2.1
  have hU := h.2.2.1
  have hE := h.2.2.2.1
  have hC := h.2.2.2.2.2
  have e10 : τ' 10 p = 5 := by rw [g10, if_pos rfl]
  have n10 : ∀ q, q ≠ p → τ' 10 q = τ 10 q := fun q e => by rw [g10, if_neg e]
  have hPp := hP p hp
  unfold Ip_ at hPp
  obtain ⟨a1, a2, a3, a4, a5, a6, a7, a8, a9, a10, a11, a12, a13, a14, a15⟩ := hPp
  obtain ⟨b1, b2, b3, b4, b5, b6⟩ := a9 (by omega)
  have hb32 : (τ 13 p).toNat < 32 := by omega
  have hb := hN _ hb32
  have hbr := hb.2.1
  have hbe : τ 2 (τ 13 p).toNat = τ 0 1 := (hb.2.2 b4).2.2.2.1 (by omega) (by omega)
  obtain ⟨d1, d2⟩ := a12 hs
  have hpr32 : (τ 14 p).toNat < 32 := by omega
  have hpr := hN _ hpr32
  have d3 : τ 2 (τ 14 p).toNat = 0 := by
    have := (hpr.2.2 d1).2.1
    omega
  have hpd : pd_ τ' n = pd_ τ n := pd_eq (fun q _ => by
    unfold in_
    rw [g2, g12]
    by_cases e : q = p
    · subst e
      rw [e10, hs]
      by_cases z : τ 2 (τ 12 q).toNat = 0
      · rw [if_pos (by omega), if_pos (by omega)]
      · rw [if_neg (by omega), if_neg (by omega)]
    · rw [n10 q e])
  unfold Iv_ Iq_
  rw [g0, g1, g2, hpd]
  refine ⟨fun q hq => ?_, fun k hk => ?_, hU, hE, h.2.2.2.2.1, hC⟩
  · have h9 := hP q hq
    unfold Ip_ at h9 ⊢
    rw [g1, g2, g4, g8, g9, g11, g12, g13, g14]
    by_cases e : q = p
    · subst e
      rw [e10]
      refine ⟨a1, a2, a3, a4, by omega, a6, a7, by omega, fun _ => a9 (by omega), by omega, fun _ _ => a11 (by omega) (by omega), by omega, fun _ _ => ?_, by omega, by omega⟩
      rw [g3, if_pos rfl]
    · rw [n10 q e]
      obtain ⟨f1, f2, f3, f4, f5, f6, f7, f8, f9, f10, f11, f12, f13, f14, f15⟩ := h9
      refine ⟨f1, f2, f3, f4, f5, f6, f7, f8, f9, f10, f11, f12, fun h5 h6 => ?_, f14, f15⟩
      have r1 := f13 h5 h6
      rw [g3, if_neg]
      · exact r1
      · intro r2
        rw [r2] at r1
        omega
  · have h9 := hN k hk
    unfold In_ Iu_ at h9 ⊢
    rw [g0, g1, g2, g4, g12]
    by_cases e : k = (τ 13 p).toNat
    · subst e
      have e3 : τ' 3 (τ 13 p).toNat = τ 14 p := by rw [g3, if_pos rfl]
      rw [e3]
      refine ⟨h9.1, by omega, fun hu => ⟨by omega, by omega, by omega, by omega, fun _ _ => ⟨d1, Or.inr ⟨d3, hbe⟩⟩, (h9.2.2 hu).2.2.2.2.2⟩⟩
    · have e3 : τ' 3 k = τ 3 k := by rw [g3, if_neg e]
      rw [e3]
      refine ⟨h9.1, h9.2.1, fun hu => ?_⟩
      obtain ⟨t1, t2, t3, t4, t5, t6⟩ := h9.2.2 hu
      refine ⟨t1, t2, fun hz => ?_, t4, t5, t6⟩
      obtain ⟨r1, o, r2, r3, r4⟩ := t3 hz
      refine ⟨r1, o, r2, ?_, r4⟩
      by_cases eo : o = p
      · rw [eo, e10]; omega
      · rw [n10 o eo]; exact r3
/-- a node gets its place -/
theorem iv_give (h : Iv_ n c τ) (hp : p < n) (hs : τ 10 p = 5) (hz : τ 2 (τ 14 p).toNat = 0) (g0 : τ' 0 1 = τ 0 1 + 1) (g1 : τ' 1 = τ 1) (g2 : ∀ k, τ' 2 k = if k = (τ 14 p).toNat then τ 0 1 + 1 else τ 2 k) (g3 : τ' 3 = τ 3) (g4 : τ' 4 = τ 4) (g8 : τ' 8 = τ 8) (g9 : τ' 9 = τ 9) (g10 : ∀ q, τ' 10 q = if q = p then 6 else τ 10 q) (g11 : τ' 11 = τ 11) (g12 : τ' 12 = τ 12) (g13 : τ' 13 = τ 13) (g14 : τ' 14 = τ 14) : Iv_ n c τ' := by
  have hP := h.1
  have hN := h.2.1
  have hU := h.2.2.1
  have hE := h.2.2.2.1
  have hC := h.2.2.2.2.2
  have e10 : τ' 10 p = 6 := by rw [g10, if_pos rfl]
  have n10 : ∀ q, q ≠ p → τ' 10 q = τ 10 q := fun q e => by rw [g10, if_neg e]
  have act : ∀ q, 1 ≤ τ 10 q → 1 ≤ τ' 10 q := fun q h1 => by
    by_cases e : q = p
    · rw [e, e10]; omega
    · rw [n10 q e]; exact h1
  have hPp := hP p hp
  unfold Ip_ at hPp
  obtain ⟨a1, a2, a3, a4, a5, a6, a7, a8, a9, a10, a11, a12, a13, a14, a15⟩ := hPp
  obtain ⟨b1, b2, b3, b4, b5, b6⟩ := a9 (by omega)
  have hb32 : (τ 13 p).toNat < 32 := by omega
  have hy32 : (τ 14 p).toNat < 32 := by omega
  have hcell : τ 14 p = τ 3 (τ 13 p).toNat := a13 (by omega) (by omega)
  have hb := hN _ hb32
  obtain ⟨y1, y2⟩ := (hb.2.2 b4).2.2.2.2.1 (by omega) (by omega)
  rw [← hcell] at y1 y2
  have hbe : τ 2 (τ 13 p).toNat = τ 0 1 := by omega
  obtain ⟨y, hy⟩ : ∃ y, y = (τ 14 p).toNat := ⟨_, rfl⟩
  rw [← hy] at g2 hz y1 y2 hy32
  have hyn := hN y hy32
  obtain ⟨z1, o, z2, z3, z4⟩ := (hyn.2.2 y1).2.2.1 hz
  have k2 : τ' 2 y = τ 0 1 + 1 := by rw [g2, if_pos rfl]
  have n2 : ∀ {k : Nat}, 1 ≤ τ 2 k → τ' 2 k = τ 2 k := fun {k} h1 => by
    rw [g2, if_neg (fun q => by rw [q] at h1; omega)]
  have ge2 : ∀ k, τ' 2 k = τ 2 k ∨ (k = y ∧ τ' 2 k = τ 0 1 + 1) := fun k => by
    by_cases e : k = y
    · rw [e, k2]; exact Or.inr ⟨rfl, rfl⟩
    · rw [g2, if_neg e]; exact Or.inl rfl
  have le2 : ∀ {k : Nat}, k < 32 → τ 1 k = 1 → τ 2 k ≤ τ 0 1 := fun {k} hk h1 => by
    exact ((hN k hk).2.2 h1).2.1
  have hpd : pd_ τ' n = pd_ τ n - 1 := by
    rw [pd_one (τ := τ) (τ' := τ') (p := o) z2 (fun q hq e => ?_)]
    · have hoy : (τ 12 o).toNat = y := by omega
      have e1 : in_ τ o = 1 := by
        unfold in_
        rw [if_pos (Or.inr ⟨z3, by rw [hoy]; exact hz⟩)]
      have e2 : in_ τ' o = 0 := by
        unfold in_
        rw [g12, hoy, k2, if_neg (by have := act o z3; omega)]
      rw [e1, e2]
      omega
    · have hq9 := hP q hq
      have ho9 := hP o z2
      clear a8 a9 a10 a11 a12 a13 a14 a15
      have e10' : (1 ≤ τ' 10 q ↔ 1 ≤ τ 10 q) ∧ (τ' 10 q = 0 ↔ τ 10 q = 0) := by
        by_cases ep : q = p
        · rw [ep, e10]; omega
        · rw [n10 q ep]; exact ⟨Iff.rfl, Iff.rfl⟩
      unfold in_
      rw [g12]
      by_cases a : 1 ≤ τ 10 q
      · have hne : (τ 12 q).toNat ≠ y := by
          intro eqy
          have w1 := (hq9.2.2.2.2.2.2.2.2.1 a).2.2.1
          have w2 := (ho9.2.2.2.2.2.2.2.2.1 z3).2.2.1
          rw [eqy] at w1
          rw [show (τ 12 o).toNat = y by omega] at w2
          omega
        rw [g2, if_neg hne]
        by_cases zz : τ 2 (τ 12 q).toNat = 0
        · rw [if_pos (by omega), if_pos (by omega)]
        · rw [if_neg (by omega), if_neg (by omega)]
      · by_cases b : τ 10 q = 0
        · rw [if_pos (Or.inl (e10'.2.mpr b)), if_pos (Or.inl b)]
        · rw [if_neg (by omega), if_neg (by omega)]
  refine ⟨fun q hq => ?_, fun k hk => ?_, ?_, by rw [g0]; omega, ⟨y, hy32, by rw [g1]; exact y1, by rw [k2, g0]⟩, by rw [g0, hpd]; omega⟩
  · have h9 := hP q hq
    unfold Ip_ at h9
    obtain ⟨f1, f2, f3, f4, f5, f6, f7, f8, f9, f10, f11, f12, f13, f14, f15⟩ := h9
    have w8 : τ' 2 (τ 8 q).toNat = τ 2 (τ 8 q).toNat := n2 f7.2
    unfold Ip_
    rw [g1, g3, g4, g8, g9, g11, g12, g13, g14, w8]
    have w13 : 1 ≤ τ 10 q → τ' 2 (τ 13 q).toNat = τ 2 (τ 13 q).toNat := fun ha => n2 (by have := (f9 ha).2.2.2.2.1; omega)
    have l13 : 1 ≤ τ 10 q → τ 2 (τ 13 q).toNat ≤ τ 0 1 := fun ha => le2 (by omega) (f9 ha).2.2.2.1
    have l8 : τ 2 (τ 8 q).toNat ≤ τ 0 1 := le2 (by omega) f7.1
    have w12 := ge2 (τ 12 q).toNat
    have w14 := ge2 (τ 14 q).toNat
    by_cases e : q = p
    · subst e
      rw [e10]
      have v13 := w13 (by omega)
      refine ⟨f1, f2, f3, f4, by omega, f6, f7, by omega, fun _ => ?_, by omega, fun _ _ => ?_, by omega, fun _ _ => f13 (by omega) (by omega), fun _ => ?_, by omega⟩
      · obtain ⟨s1, s2, s3, s4, s5, s6⟩ := f9 (by omega)
        refine ⟨s1, s2, s3, s4, by omega, by omega⟩
      · have := f11 (by omega) (by omega)
        have := l13 (by omega)
        omega
      · rw [← hy, k2, v13, hbe]
    · rw [n10 q e]
      refine ⟨f1, f2, f3, f4, f5, f6, f7, f8, fun ha => ?_, f10, fun h3 h6 => ?_, fun h4 => ?_, f13, fun h6 => ?_, fun h7 => ?_⟩
      · obtain ⟨s1, s2, s3, s4, s5, s6⟩ := f9 ha
        have := w13 ha
        refine ⟨s1, s2, s3, s4, by omega, by omega⟩
      · have := f11 h3 h6
        have := w13 (by omega)
        have := l13 (by omega)
        omega
      · obtain ⟨s1, s2⟩ := f12 h4
        have := w13 (by omega)
        have := l13 (by omega)
        exact ⟨s1, by omega⟩
      · have s1 := f14 h6
        have s2 := f9 (by omega)
        rw [w13 (by omega), n2 (by omega)]
        exact s1
      · have := f15 h7
        omega
  · have h9 := hN k hk
    unfold In_ Iu_ at h9 ⊢
    rw [g0, g1, g3, g4, g12]
    refine ⟨h9.1, h9.2.1, fun hu => ?_⟩
    obtain ⟨t1, t2, t3, t4, t5, t6⟩ := h9.2.2 hu
    by_cases e : k = y
    · subst e
      rw [k2, z1]
      exact ⟨by omega, by omega, by omega, fun _ _ => rfl, by omega, by omega⟩
    · have e2 : τ' 2 k = τ 2 k := by rw [g2, if_neg e]
      rw [e2]
      refine ⟨t1, by omega, fun hz2 => ?_, fun s1 s2 => ?_, fun s1 s2 => ?_, t6⟩
      · obtain ⟨r1, o2, r2, r3, r4⟩ := t3 hz2
        exact ⟨r1, o2, r2, act o2 r3, r4⟩
      · have s3 := t4 s1 s2
        have s4 := hU k _ hk hb32 hu b4 (by omega) s1
        rw [s4] at s2
        omega
      · obtain ⟨s3, s4⟩ := t5 s1 s2
        refine ⟨s3, ?_⟩
        by_cases e3 : (τ 3 k).toNat = y
        · rw [e3, k2]
          rw [e3] at s4
          omega
        · rw [g2, if_neg e3]
          rcases s4 with s4 | ⟨s4, s5⟩
          · exact Or.inl s4
          · have s6 := hU k _ hk hb32 hu b4 (by omega) s1
            rw [s6, ← hcell, ← hy] at e3
            exact absurd rfl e3
  · intro j k hj hk h1 h2 h3 h4
    rw [g1] at h1 h2
    have l1 := le2 hj h1
    have l2 := le2 hk h2
    rcases ge2 j with q1 | ⟨q1, q1'⟩ <;> rcases ge2 k with q2 | ⟨q2, q2'⟩
    · exact hU j k hj hk h1 h2 (by omega) (by omega)
    · omega
    · omega
    · rw [q1, q2]
/-- idle heads go to F, nodes below x go out of use -/
theorem iv_cut {F : Nat} {x : Int} (h : Iv_ n c τ) (hF32 : F < 32) (hF1 : τ 1 F = 1) (hF2 : 1 ≤ τ 2 F) (hxF : x ≤ τ 2 F) (hx : ∀ q, q < n → x ≤ τ 2 (τ' 8 q).toNat) (g0 : τ' 0 1 = τ 0 1) (g1 : ∀ k, k < 32 → τ' 1 k = if τ 1 k = 1 ∧ 1 ≤ τ 2 k ∧ τ 2 k < x then 0 else τ 1 k) (g2 : τ' 2 = τ 2) (g3 : τ' 3 = τ 3) (g4 : τ' 4 = τ 4) (g8 : ∀ q, q < n → τ' 8 q = if τ 10 q = -1 then (F : Int) else τ 8 q) (g9 : τ' 9 = τ 9) (g10 : τ' 10 = τ 10) (g11 : τ' 11 = τ 11) (g12 : τ' 12 = τ 12) (g13 : τ' 13 = τ 13) (g14 : τ' 14 = τ 14) : Iv_ n c τ' := by
  obtain ⟨hP, hN, hU, hE, hX, hC⟩ := h
  have keep : ∀ {k : Nat}, k < 32 → τ 1 k = 1 → (τ 2 k = 0 ∨ x ≤ τ 2 k) → τ' 1 k = 1 := fun {k} hk h1 h2 => by
    rw [g1 k hk, if_neg (by omega)]; exact h1
  have back : ∀ {k : Nat}, k < 32 → τ' 1 k = 1 → τ 1 k = 1 ∧ (τ 2 k < 1 ∨ x ≤ τ 2 k) := fun {k} hk h1 => by
    rw [g1 k hk] at h1
    by_cases a : τ 1 k = 1 ∧ 1 ≤ τ 2 k ∧ τ 2 k < x
    · rw [if_pos a] at h1; omega
    · rw [if_neg a] at h1
      exact ⟨h1, by omega⟩
  have hpd : pd_ τ' n = pd_ τ n := pd_eq (fun q _ => by unfold in_; rw [g10, g2, g12])
  have hFe : τ 2 F ≤ τ 0 1 := by
    have := hN F hF32
    unfold In_ Iu_ at this
    exact (this.2.2 hF1).2.1
  refine ⟨fun q hq => ?_, fun k hk => ?_, ?_, by rw [g0]; exact hE, ?_, by rw [g0, hpd]; exact hC⟩
  · have h9 := hP q hq
    have hxq := hx q hq
    unfold Ip_ at h9
    obtain ⟨f1, f2, f3, f4, f5, f6, f7, f8, f9, f10, f11, f12, f13, f14, f15⟩ := h9
    unfold Ip_
    rw [g2, g3, g4, g9, g10, g11, g12, g13, g14]
    by_cases e : τ 10 q = -1
    · have e8 : τ' 8 q = (F : Int) := by rw [g8 q hq, if_pos e]
      rw [e8, show ((F : Int)).toNat = F by omega]
      exact ⟨by omega, f2, f3, f4, f5, f6, ⟨keep hF32 hF1 (Or.inr hxF), hF2⟩, f8, by omega, by omega, by omega, by omega, by omega, by omega, by omega⟩
    · have e8 : τ' 8 q = τ 8 q := by rw [g8 q hq, if_neg e]
      rw [e8] at hxq ⊢
      refine ⟨f1, f2, f3, f4, f5, f6, ⟨keep (by omega) f7.1 (Or.inr hxq), f7.2⟩, f8, fun ha => ?_, f10, f11, fun h4 => ?_, f13, f14, f15⟩
      · obtain ⟨b1, b2, b3, b4, b5, b6⟩ := f9 ha
        exact ⟨b1, keep (by omega) b2 (by omega), b3, keep (by omega) b4 (by omega), b5, b6⟩
      · obtain ⟨b1, b2, b3, b4, b5, b6⟩ := f9 (by omega)
        obtain ⟨d1, d2⟩ := f12 h4
        exact ⟨keep (by omega) d1 (by omega), d2⟩
  · have h9 := hN k hk
    unfold In_ Iu_ at h9 ⊢
    rw [g0, g2, g3, g4, g10, g12]
    refine ⟨?_, h9.2.1, fun hu => ?_⟩
    · rw [g1 k hk]
      by_cases a : τ 1 k = 1 ∧ 1 ≤ τ 2 k ∧ τ 2 k < x
      · rw [if_pos a]; exact Or.inl rfl
      · rw [if_neg a]; exact h9.1
    · obtain ⟨r1, r2⟩ := back hk hu
      obtain ⟨t1, t2, t3, t4, t5, t6⟩ := h9.2.2 r1
      refine ⟨t1, t2, t3, t4, fun s1 s2 => ?_, t6⟩
      obtain ⟨d1, d2⟩ := t5 s1 s2
      exact ⟨keep (by omega) d1 (by omega), d2⟩
  · intro j k hj hk h1 h2 h3 h4
    rw [g2] at h3 h4
    exact hU j k hj hk (back hj h1).1 (back hk h2).1 h3 h4
  · obtain ⟨k, x1, x2, x3⟩ := hX
    exact ⟨k, x1, keep x1 x2 (by omega), by rw [g2, g0]; exact x3⟩
end INV_B
end
section
section STEP_A
def tz_ (ρ : ST_) : TZ_ := fun c i => (ρ c i).toInt
theorem iz_lt {x y : Int32} : x < y ↔ x.toInt < y.toInt := Int32.lt_iff_toInt_lt
theorem iz_le {x y : Int32} : x ≤ y ↔ x.toInt ≤ y.toInt := Int32.le_iff_toInt_le
theorem iz_eq {x y : Int32} : x = y ↔ x.toInt = y.toInt := Int32.toInt_inj.symm
theorem iz_0 : (0 : Int32).toInt = 0 := by decide
theorem iz_1 : (1 : Int32).toInt = 1 := by decide
theorem iz_2 : (2 : Int32).toInt = 2 := by decide
theorem iz_3 : (3 : Int32).toInt = 3 := by decide
theorem iz_4 : (4 : Int32).toInt = 4 := by decide
theorem iz_5 : (5 : Int32).toInt = 5 := by decide
theorem iz_6 : (6 : Int32).toInt = 6 := by decide
theorem iz_7 : (7 : Int32).toInt = 7 := by decide
theorem iz_8 : (8 : Int32).toInt = 8 := by decide
theorem iz_m : (-1 : Int32).toInt = -1 := by decide
theorem iz_ix (x : Int32) : ix_ x = x.toInt.toNat := rfl
theorem iz_nI {n : Nat} (h : n < 1000000) : (nI n).toInt = n := nI_toInt (by omega)
theorem iz_of {x : Int32} (h0 : 0 ≤ x.toInt) : x = nI (ix_ x) ∧ ix_ x < 2 ^ 31 := by
  obtain ⟨j, hj, e⟩ := nI_of (x := x) (fun h => by rw [iz_lt, iz_0] at h; omega)
  rw [e, show ix_ (nI j) = j from nI_clamp hj]
  exact ⟨rfl, hj⟩
theorem iz_add {x : Int32} (h0 : 0 ≤ x.toInt) (h : x.toInt < 1000000) : (x + 1).toInt = x.toInt + 1 := by
  obtain ⟨e, hj⟩ := iz_of h0
  have h1 : x.toInt = (ix_ x : Int) := by rw [iz_ix]; omega
  rw [e, nI_1, nI_toInt (by omega), nI_toInt hj]
  omega
theorem upd_id (f : Nat → Int32) (k : Nat) : upd f k (f k) = f := by
  funext j
  by_cases h : j = k
  · rw [h]; simp [upd]
  · simp [upd, h]
theorem u2_id (ρ : ST_) (c i : Nat) : u2_ ρ c i (ρ c i) = ρ := by
  funext a j
  rw [u2_at]
  split
  · next h => rw [h.1, h.2]
  · rfl
theorem tz_u2 (ρ : ST_) (c i : Nat) (v : Int32) (a j : Nat) : tz_ (u2_ ρ c i v) a j = if a = c ∧ j = i then v.toInt else tz_ ρ a j := by
  unfold tz_
  rw [u2_at]
  split <;> rfl
theorem tz_u1 (ρ : ST_) {c a : Nat} (f : Nat → Int32) (h : a ≠ c) : tz_ (u1_ ρ c f) a = tz_ ρ a := by
  funext j
  unfold tz_
  rw [u1_ne _ _ h]
/-- the components that class and reference share whole -/
def dm_ (a : Nat) : Prop := (1 ≤ a ∧ a ≤ 3) ∨ (8 ≤ a ∧ a ≤ 20)
def Ea_ (σ ρ : ST_) : Prop := ∀ a, dm_ a → σ a = ρ a
theorem ea_u2 {σ ρ : ST_} (h : Ea_ σ ρ) (c i : Nat) (v : Int32) : Ea_ (u2_ σ c i v) (u2_ ρ c i v) := by
  intro a ha
  by_cases e : a = c
  · subst e; rw [u2_same, u2_same, h a ha]
  · rw [u2_ne _ _ _ e, u2_ne _ _ _ e, h a ha]
theorem ea_l {σ ρ : ST_} (h : Ea_ σ ρ) {c : Nat} (hc : ¬ dm_ c) (i : Nat) (v : Int32) : Ea_ (u2_ σ c i v) ρ := by
  intro a ha
  have ne : a ≠ c := fun e => hc (by rw [← e]; exact ha)
  rw [u2_ne _ _ _ ne, h a ha]
theorem ea_r {σ ρ : ST_} (h : Ea_ σ ρ) {c : Nat} (hc : ¬ dm_ c) (i : Nat) (v : Int32) : Ea_ σ (u2_ ρ c i v) := by
  intro a ha
  have ne : a ≠ c := fun e => hc (by rw [← e]; exact ha)
  rw [u2_ne _ _ _ ne, h a ha]
theorem ea_l1 {σ ρ : ST_} (h : Ea_ σ ρ) {c : Nat} (hc : ¬ dm_ c) (f : Nat → Int32) : Ea_ (u1_ σ c f) ρ := by
  intro a ha
  have ne : a ≠ c := fun e => hc (by rw [← e]; exact ha)
  rw [u1_ne _ _ ne, h a ha]
theorem ea_r1 {σ ρ : ST_} (h : Ea_ σ ρ) {c : Nat} (hc : ¬ dm_ c) (f : Nat → Int32) : Ea_ σ (u1_ ρ c f) := by
  intro a ha
  have ne : a ≠ c := fun e => hc (by rw [← e]; exact ha)
  rw [u1_ne _ _ ne, h a ha]
/-- the rest: the log's calls, the answers, the objects -/
def Eb_ (K n : Nat) (σ ρ : ST_) : Prop :=
  (∀ k, k < 32 → ρ 1 k = 1 → ¬ ρ 2 k = 1 → σ 4 k = ρ 4 k ∧ σ 5 k = ρ 5 k ∧ σ 6 k = ρ 6 k ∧ σ 7 k = ρ 7 k) ∧
  (∀ k, k < 32 → ρ 1 k = 1 → ρ 2 k = 1 → σ 4 k = -1 ∧ σ 5 k = -1 ∧ σ 6 k = -1 ∧ σ 7 k = -1) ∧
  (σ 30 = (rs_ K (ρ 21) (ρ 22) (ρ 23) (ix_ (ρ 0 1) - 1)).1 ∧ σ 33 0 = (rs_ K (ρ 21) (ρ 22) (ρ 23) (ix_ (ρ 0 1) - 1)).2.1) ∧
  (∀ k, k < 32 → ρ 1 k = 1 → 2 ≤ (ρ 2 k).toInt → σ 26 k = (rs_ K (ρ 21) (ρ 22) (ρ 23) (ix_ (ρ 2 k) - 1)).2.2) ∧
  (∀ k, k < 32 → ρ 1 k = 1 → 2 ≤ (ρ 2 k).toInt → ρ 21 (ix_ (ρ 2 k)) = ρ 5 k ∧ ρ 22 (ix_ (ρ 2 k)) = ρ 6 k ∧ ρ 23 (ix_ (ρ 2 k)) = ρ 7 k) ∧
  (σ 32 = ρ 25 ∧ σ 33 2 = ρ 0 3 ∧ 0 ≤ (ρ 0 3).toInt ∧ (ρ 0 3).toInt ≤ 8) ∧
  (∀ p, p < n → 0 ≤ (ρ 15 p).toInt ∧ (ρ 15 p).toInt ≤ 2) ∧
  (∀ k, k < 32 → 0 ≤ (ρ 5 k).toInt ∧ (ρ 5 k).toInt ≤ 2)
theorem eb_congr {K n : Nat} {σ σ' ρ ρ' : ST_} (h : Eb_ K n σ ρ) (s4 : σ' 4 = σ 4) (s5 : σ' 5 = σ 5) (s6 : σ' 6 = σ 6) (s7 : σ' 7 = σ 7) (s26 : σ' 26 = σ 26) (s30 : σ' 30 = σ 30) (s32 : σ' 32 = σ 32) (s33 : σ' 33 = σ 33)
    (r1 : ρ' 1 = ρ 1) (r2 : ρ' 2 = ρ 2) (r4 : ρ' 4 = ρ 4) (r5 : ρ' 5 = ρ 5) (r6 : ρ' 6 = ρ 6) (r7 : ρ' 7 = ρ 7) (r15 : ρ' 15 = ρ 15) (r21 : ρ' 21 = ρ 21) (r22 : ρ' 22 = ρ 22) (r23 : ρ' 23 = ρ 23) (r25 : ρ' 25 = ρ 25) (r01 : ρ' 0 1 = ρ 0 1) (r03 : ρ' 0 3 = ρ 0 3) : Eb_ K n σ' ρ' := by
  unfold Eb_ at h ⊢
  rw [s4, s5, s6, s7, s26, s30, s32, s33, r1, r2, r4, r5, r6, r7, r15, r21, r22, r23, r25, r01, r03]
  exact h
/-- class and reference together, behind c calls -/
def Jr_ (K n c : Nat) (σ ρ : ST_) : Prop := Iv_ n c (tz_ ρ) ∧ Ea_ σ ρ ∧ Eb_ K n σ ρ
end STEP_A
section STEP_B
variable {K n c p : Nat} {σ ρ : ST_}
/-- a step of p that touches its own row alone, on both sides -/
theorem jr_proc (h : Jr_ K n c σ ρ) {σ' ρ' : ST_} (hr : ∀ a, a ≠ 8 → a ≠ 10 → a ≠ 11 → a ≠ 13 → a ≠ 14 → ρ' a = ρ a) (hrq : ∀ a q, q ≠ p → ρ' a q = ρ a q) (hs : ∀ a, a ≠ 8 → a ≠ 10 → a ≠ 11 → a ≠ 13 → a ≠ 14 → σ' a = σ a) (ha : Ea_ σ' ρ') (h1 : 1 ≤ tz_ ρ 10 p) (h2 : 1 ≤ tz_ ρ' 10 p) (hp : Ip_ n (tz_ ρ') p) : Jr_ K n c σ' ρ' := by
  obtain ⟨hI, hA, hB⟩ := h
  have tr : ∀ a, a ≠ 8 → a ≠ 10 → a ≠ 11 → a ≠ 13 → a ≠ 14 → tz_ ρ' a = tz_ ρ a := fun a x1 x2 x3 x4 x5 => by
    funext j; unfold tz_; rw [hr a x1 x2 x3 x4 x5]
  have tq : ∀ a q, q ≠ p → tz_ ρ' a q = tz_ ρ a q := fun a q e => by unfold tz_; rw [hrq a q e]
  refine ⟨iv_proc (p := p) hI (by rw [tr 0 (by omega) (by omega) (by omega) (by omega) (by omega)]) (tr 1 (by omega) (by omega) (by omega) (by omega) (by omega)) (tr 2 (by omega) (by omega) (by omega) (by omega) (by omega)) (tr 3 (by omega) (by omega) (by omega) (by omega) (by omega)) (tr 4 (by omega) (by omega) (by omega) (by omega) (by omega)) (fun q e => ⟨tq _ q e, tq _ q e, tq _ q e, tq _ q e, tq _ q e, tq _ q e, tq _ q e⟩) (by rw [tr 12 (by omega) (by omega) (by omega) (by omega) (by omega)]) h1 h2 hp, ha, ?_⟩
  exact eb_congr hB (hs _ (by omega) (by omega) (by omega) (by omega) (by omega)) (hs _ (by omega) (by omega) (by omega) (by omega) (by omega)) (hs _ (by omega) (by omega) (by omega) (by omega) (by omega)) (hs _ (by omega) (by omega) (by omega) (by omega) (by omega)) (hs _ (by omega) (by omega) (by omega) (by omega) (by omega)) (hs _ (by omega) (by omega) (by omega) (by omega) (by omega)) (hs _ (by omega) (by omega) (by omega) (by omega) (by omega)) (hs _ (by omega) (by omega) (by omega) (by omega) (by omega))
    (hr _ (by omega) (by omega) (by omega) (by omega) (by omega)) (hr _ (by omega) (by omega) (by omega) (by omega) (by omega)) (hr _ (by omega) (by omega) (by omega) (by omega) (by omega)) (hr _ (by omega) (by omega) (by omega) (by omega) (by omega)) (hr _ (by omega) (by omega) (by omega) (by omega) (by omega)) (hr _ (by omega) (by omega) (by omega) (by omega) (by omega)) (hr _ (by omega) (by omega) (by omega) (by omega) (by omega)) (hr _ (by omega) (by omega) (by omega) (by omega) (by omega)) (hr _ (by omega) (by omega) (by omega) (by omega) (by omega)) (hr _ (by omega) (by omega) (by omega) (by omega) (by omega)) (hr _ (by omega) (by omega) (by omega) (by omega) (by omega))
    (by rw [hr 0 (by omega) (by omega) (by omega) (by omega) (by omega)]) (by rw [hr 0 (by omega) (by omega) (by omega) (by omega) (by omega)])
theorem dm_of {a : Nat} (h : a ≤ 3 ∧ 1 ≤ a ∨ 8 ≤ a ∧ a ≤ 20) : dm_ a := by unfold dm_; omega
theorem jr_ask (h : Jr_ K n c σ ρ) (hp : p < n) (hs : ρ 10 p = 2) : Jr_ K n c (hc_ask σ p) (hm_ask ρ p) := by
  have hA := h.2.1
  have e2 : σ 2 = ρ 2 := hA 2 (dm_of (by omega))
  have e12 : σ 12 = ρ 12 := hA 12 (dm_of (by omega))
  have z10 : tz_ ρ 10 p = 2 := by unfold tz_; rw [hs]; exact iz_2
  have hPp := h.1.1 p hp
  unfold Ip_ at hPp
  obtain ⟨a1, a2, a3, a4, a5, a6, a7, a8, a9, a10, a11, a12, a13, a14, a15⟩ := hPp
  obtain ⟨b1, b2, b3, b4, b5, b6⟩ := a9 (by omega)
  have hown := (h.1.2.1 _ (show (tz_ ρ 12 p).toNat < 32 by omega)).2.2 b2
  have q : tz_ ρ 2 (tz_ ρ 12 p).toNat = (ρ 2 (ix_ (ρ 12 p))).toInt := rfl
  obtain ⟨v, hv⟩ : ∃ v, v = (if 0 < ρ 2 (ix_ (ρ 12 p)) then (7 : Int32) else 3) := ⟨_, rfl⟩
  have hv2 : (v.toInt = 7 ∧ 1 ≤ tz_ ρ 2 (tz_ ρ 12 p).toNat) ∨ (v.toInt = 3 ∧ tz_ ρ 2 (tz_ ρ 12 p).toNat = 0) := by
    by_cases g : 0 < ρ 2 (ix_ (ρ 12 p))
    · rw [hv, if_pos g]
      rw [iz_lt, iz_0] at g
      exact Or.inl ⟨iz_7, by omega⟩
    · rw [hv, if_neg g]
      rw [iz_lt, iz_0] at g
      have := hown.1
      exact Or.inr ⟨iz_3, by omega⟩
  have hE : hm_ask ρ p = u2_ ρ 10 p v := by unfold hm_ask; rw [hv]
  have hE2 : hc_ask σ p = u2_ σ 10 p v := by unfold hc_ask; rw [e2, e12, hv]
  rw [hE, hE2]
  have t10 : tz_ (u2_ ρ 10 p v) 10 p = v.toInt := by rw [tz_u2, if_pos ⟨rfl, rfl⟩]
  have tn : ∀ a, a ≠ 10 → tz_ (u2_ ρ 10 p v) a = tz_ ρ a := fun a ha => by
    funext j; rw [tz_u2, if_neg (fun q => ha q.1)]
  refine jr_proc (p := p) h (fun a _ x _ _ _ => u2_ne _ _ _ x) (fun a q e => ?_) (fun a _ x _ _ _ => u2_ne _ _ _ x) (ea_u2 hA _ _ _) (by omega) (by rw [t10]; omega) ?_
  · rw [u2_at, if_neg (fun z => e z.2)]
  · unfold Ip_
    rw [tn 1 (by omega), tn 2 (by omega), tn 3 (by omega), tn 4 (by omega), tn 8 (by omega), tn 9 (by omega), tn 11 (by omega), tn 12 (by omega), tn 13 (by omega), tn 14 (by omega), t10]
    exact ⟨a1, a2, a3, a4, by omega, a6, a7, by omega, fun _ => a9 (by omega), by omega, by omega, by omega, by omega, by omega, by omega⟩
theorem jr_move (h : Jr_ K n c σ ρ) (hp : p < n) (hs : ρ 10 p = 6) : Jr_ K n c (hc_move σ p) (hm_move ρ p) := by
  have hA := h.2.1
  have e14 : σ 14 = ρ 14 := hA 14 (dm_of (by omega))
  have z10 : tz_ ρ 10 p = 6 := by unfold tz_; rw [hs]; exact iz_6
  have hPp := h.1.1 p hp
  unfold Ip_ at hPp
  obtain ⟨a1, a2, a3, a4, a5, a6, a7, a8, a9, a10, a11, a12, a13, a14, a15⟩ := hPp
  obtain ⟨b1, b2, b3, b4, b5, b6⟩ := a9 (by omega)
  have q1 := a13 (by omega) (by omega)
  have q2 := a14 (by omega)
  have q3 := a11 (by omega) (by omega)
  have hb := (h.1.2.1 _ (show (tz_ ρ 13 p).toNat < 32 by omega)).2.2 b4
  unfold Iu_ at hb
  have q4 := (hb.2.2.2.2.1 (by omega) (by omega)).1
  rw [← q1] at q4
  obtain ⟨ρ', hE⟩ : ∃ ρ', ρ' = hm_move ρ p := ⟨_, rfl⟩
  have t8 : tz_ ρ' 8 p = tz_ ρ 14 p := by rw [hE]; unfold hm_move; rw [tz_u2, if_neg (by omega), tz_u2, if_neg (by omega), tz_u2, if_pos ⟨rfl, rfl⟩]; rfl
  have t13 : tz_ ρ' 13 p = tz_ ρ 14 p := by rw [hE]; unfold hm_move; rw [tz_u2, if_neg (by omega), tz_u2, if_pos ⟨rfl, rfl⟩]; rfl
  have t10 : tz_ ρ' 10 p = 2 := by rw [hE]; unfold hm_move; rw [tz_u2, if_pos ⟨rfl, rfl⟩]; exact iz_2
  have rn : ∀ a, a ≠ 8 → a ≠ 10 → a ≠ 13 → ρ' a = ρ a := fun a x8 x10 x13 => by rw [hE]; unfold hm_move; rw [u2_ne _ _ _ x10, u2_ne _ _ _ x13, u2_ne _ _ _ x8]
  have tn : ∀ a, a ≠ 8 → a ≠ 10 → a ≠ 13 → tz_ ρ' a = tz_ ρ a := fun a x8 x10 x13 => by funext j; unfold tz_; rw [rn a x8 x10 x13]
  rw [← hE]
  refine jr_proc (p := p) h (fun a x8 x10 _ x13 _ => rn a x8 x10 x13) (fun a q e => ?_) (fun a x8 x10 _ x13 _ => ?_) ?_ (by omega) (by rw [t10]; omega) ?_
  · rw [hE]; unfold hm_move; rw [u2_at, if_neg (fun z => e z.2), u2_at, if_neg (fun z => e z.2), u2_at, if_neg (fun z => e z.2)]
  · unfold hc_move; rw [u2_ne _ _ _ x10, u2_ne _ _ _ x13, u2_ne _ _ _ x8]
  · rw [hE]; unfold hc_move hm_move; rw [e14]; exact ea_u2 (ea_u2 (ea_u2 hA _ _ _) _ _ _) _ _ _
  · unfold Ip_
    rw [t8, t13, t10, tn 1 (by omega) (by omega) (by omega), tn 2 (by omega) (by omega) (by omega), tn 3 (by omega) (by omega) (by omega), tn 4 (by omega) (by omega) (by omega), tn 9 (by omega) (by omega) (by omega), tn 11 (by omega) (by omega) (by omega), tn 12 (by omega) (by omega) (by omega), tn 14 (by omega) (by omega) (by omega)]
    exact ⟨a4, a2, a4, a4, by omega, a6, ⟨q4, by omega⟩, by omega, fun _ => ⟨b1, b2, b3, q4, Int.le_refl _, by omega⟩, by omega, by omega, by omega, by omega, by omega, by omega⟩
end STEP_B
end
section
section STEP_C
variable {K n c p : Nat} {σ ρ : ST_}
theorem jr_look (h : Jr_ K n c σ ρ) (hn : n ≤ 5) (hp : p < n) (hs : ρ 10 p = 1) : Jr_ K n c (hc_look n σ p) (hm_look n ρ p) := by
  have hA := h.2.1
  have e2 : σ 2 = ρ 2 := hA 2 (dm_of (by omega))
  have e8 : σ 8 = ρ 8 := hA 8 (dm_of (by omega))
  have e10 : σ 10 = ρ 10 := hA 10 (dm_of (by omega))
  have e11 : σ 11 = ρ 11 := hA 11 (dm_of (by omega))
  have e13 : σ 13 = ρ 13 := hA 13 (dm_of (by omega))
  have z10 : tz_ ρ 10 p = 1 := by unfold tz_; rw [hs]; exact iz_1
  have hPp := h.1.1 p hp
  unfold Ip_ at hPp
  obtain ⟨a1, a2, a3, a4, a5, a6, a7, a8, a9, a10, a11, a12, a13, a14, a15⟩ := hPp
  obtain ⟨b1, b2, b3, b4, b5, b6⟩ := a9 (by omega)
  have q11 := a10 z10
  have x11 : (ρ 11 p).toInt = tz_ ρ 11 p := rfl
  have hnI : (nI n).toInt = n := iz_nI (by omega)
  have hadd : (ρ 11 p + 1).toInt = tz_ ρ 11 p + 1 := iz_add (by rw [x11]; omega) (by rw [x11]; omega)
  have hq : (tz_ ρ 11 p).toNat < n := by omega
  have hPq := h.1.1 _ hq
  unfold Ip_ at hPq
  obtain ⟨d1, -, -, -, -, -, d7, -⟩ := hPq
  obtain ⟨w, hw⟩ : ∃ w, w = (if ρ 2 (ix_ (ρ 13 p)) < ρ 2 (ix_ (ρ 8 (ix_ (ρ 11 p)))) then ρ 8 (ix_ (ρ 11 p)) else ρ 13 p) := ⟨_, rfl⟩
  obtain ⟨v, hv⟩ : ∃ v, v = (if ρ 11 p + 1 = nI n then (2 : Int32) else 1) := ⟨_, rfl⟩
  have hE : hm_look n ρ p = u2_ (u2_ (u2_ ρ 13 p w) 11 p (ρ 11 p + 1)) 10 p v := by unfold hm_look; rw [hw, hv]
  have hlt : ρ 11 p < nI n := by rw [iz_lt, hnI, x11]; omega
  have h1 : Ea_ (hc_look1 n σ p) (u2_ ρ 13 p w) := by
    unfold hc_look1
    rw [e2, e8, e11, e13, if_pos hlt, hw]
    by_cases g : ρ 2 (ix_ (ρ 13 p)) < ρ 2 (ix_ (ρ 8 (ix_ (ρ 11 p))))
    · rw [if_pos g, if_pos g]; exact ea_u2 hA _ _ _
    · rw [if_neg g, if_neg g, u2_id]; exact hA
  have hw2 : (w.toInt = tz_ ρ 8 (tz_ ρ 11 p).toNat ∧ tz_ ρ 2 (tz_ ρ 13 p).toNat < tz_ ρ 2 (tz_ ρ 8 (tz_ ρ 11 p).toNat).toNat) ∨ w.toInt = tz_ ρ 13 p := by
    by_cases g : ρ 2 (ix_ (ρ 13 p)) < ρ 2 (ix_ (ρ 8 (ix_ (ρ 11 p))))
    · rw [hw, if_pos g]
      rw [iz_lt] at g
      exact Or.inl ⟨rfl, g⟩
    · rw [hw, if_neg g]; exact Or.inr rfl
  have hv2 : (v.toInt = 2 ∧ tz_ ρ 11 p + 1 = n) ∨ (v.toInt = 1 ∧ tz_ ρ 11 p + 1 < n ∧ v = 1) := by
    by_cases g : ρ 11 p + 1 = nI n
    · rw [hv, if_pos g]
      rw [iz_eq, hadd, hnI] at g
      exact Or.inl ⟨iz_2, g⟩
    · rw [hv, if_neg g]
      rw [iz_eq, hadd, hnI] at g
      exact Or.inr ⟨iz_1, by omega, rfl⟩
  have h2 : Ea_ (hc_look n σ p) (hm_look n ρ p) := by
    rw [hE]
    unfold hc_look
    rw [e11]
    by_cases g : nI n ≤ ρ 11 p + 1
    · rw [if_pos g]
      rw [iz_le, hadd, hnI] at g
      have hv3 : v = 2 := by rw [hv, if_pos (by rw [iz_eq, hadd, hnI]; omega)]
      rw [hv3]
      exact ea_u2 (ea_u2 h1 _ _ _) _ _ _
    · rw [if_neg g]
      rw [iz_le, hadd, hnI] at g
      have hv3 : v = 1 := by rw [hv, if_neg (by rw [iz_eq, hadd, hnI]; omega)]
      have q : (u2_ (u2_ ρ 13 p w) 11 p (ρ 11 p + 1)) 10 p = v := by rw [u2_ne _ _ _ (by omega), u2_ne _ _ _ (by omega), hs, hv3]
      rw [← q, u2_id]
      exact ea_u2 h1 _ _ _
  obtain ⟨ρ', hρ⟩ : ∃ ρ', ρ' = hm_look n ρ p := ⟨_, rfl⟩
  have t13 : tz_ ρ' 13 p = w.toInt := by rw [hρ, hE, tz_u2, if_neg (by omega), tz_u2, if_neg (by omega), tz_u2, if_pos ⟨rfl, rfl⟩]
  have t11 : tz_ ρ' 11 p = tz_ ρ 11 p + 1 := by rw [hρ, hE, tz_u2, if_neg (by omega), tz_u2, if_pos ⟨rfl, rfl⟩, hadd]
  have t10 : tz_ ρ' 10 p = v.toInt := by rw [hρ, hE, tz_u2, if_pos ⟨rfl, rfl⟩]
  have rn : ∀ a, a ≠ 10 → a ≠ 11 → a ≠ 13 → ρ' a = ρ a := fun a x10 x11 x13 => by rw [hρ, hE, u2_ne _ _ _ x10, u2_ne _ _ _ x11, u2_ne _ _ _ x13]
  have tn : ∀ a, a ≠ 10 → a ≠ 11 → a ≠ 13 → tz_ ρ' a = tz_ ρ a := fun a x10 x11 x13 => by funext j; unfold tz_; rw [rn a x10 x11 x13]
  rw [← hρ] at h2 ⊢
  refine jr_proc (p := p) h (fun a _ x10 x11 x13 _ => rn a x10 x11 x13) (fun a q e => ?_) (fun a _ x10 x11 x13 _ => ?_) h2 (by omega) (by rw [t10]; omega) ?_
  · rw [hρ, hE, u2_at, if_neg (fun z => e z.2), u2_at, if_neg (fun z => e z.2), u2_at, if_neg (fun z => e z.2)]
  · have q1 : hc_look1 n σ p a = σ a := by
      unfold hc_look1
      split
      · split
        · exact u2_ne _ _ _ x13
        · rfl
      · rfl
    unfold hc_look
    split
    · rw [u2_ne _ _ _ x10, u2_ne _ _ _ x11, q1]
    · rw [u2_ne _ _ _ x11, q1]
  · unfold Ip_
    rw [t13, t11, t10, tn 1 (by omega) (by omega) (by omega), tn 2 (by omega) (by omega) (by omega), tn 3 (by omega) (by omega) (by omega), tn 4 (by omega) (by omega) (by omega), tn 8 (by omega) (by omega) (by omega), tn 9 (by omega) (by omega) (by omega), tn 12 (by omega) (by omega) (by omega), tn 14 (by omega) (by omega) (by omega)]
    rcases hw2 with ⟨g1, g2⟩ | g1
    · rw [g1]
      exact ⟨a1, a2, d1, a4, by omega, by omega, a7, by omega, fun _ => ⟨b1, b2, b3, d7.1, by omega, b6⟩, by omega, by omega, by omega, by omega, by omega, by omega⟩
    · rw [g1]
      exact ⟨a1, a2, a3, a4, by omega, by omega, a7, by omega, fun _ => ⟨b1, b2, b3, b4, b5, b6⟩, by omega, by omega, by omega, by omega, by omega, by omega⟩
theorem fm_q {a d : Nat} (ha : a < 1000000) (h0 : 0 < d) (hd : d < 1000000) : fmv (nI a) (nI d) = nI (a % d) ∧ nI a - nI a / nI d * nI d = nI (a % d) := by
  have e := pk_rem (a := a) (d := d) (by omega) h0 (by omega)
  refine ⟨?_, e⟩
  unfold fmv fmOf
  rw [e, if_pos (nI_pos' (by have := Nat.mod_lt a h0; omega))]
theorem jr_choose (h : Jr_ K n c σ ρ) (hn : n ≤ 5) (hc : c < 100000) (hp : p < n) (hs : ρ 10 p = 3) : Jr_ K n c (hc_choose n σ p) (hm_choose n ρ p) := by
  have hA := h.2.1
  have e2 : σ 2 = ρ 2 := hA 2 (dm_of (by omega))
  have e9 : σ 9 = ρ 9 := hA 9 (dm_of (by omega))
  have e12 : σ 12 = ρ 12 := hA 12 (dm_of (by omega))
  have e13 : σ 13 = ρ 13 := hA 13 (dm_of (by omega))
  have z10 : tz_ ρ 10 p = 3 := by unfold tz_; rw [hs]; exact iz_3
  have hPp := h.1.1 p hp
  unfold Ip_ at hPp
  obtain ⟨a1, a2, a3, a4, a5, a6, a7, a8, a9, a10, a11, a12, a13, a14, a15⟩ := hPp
  obtain ⟨b1, b2, b3, b4, b5, b6⟩ := a9 (by omega)
  have hpd := (pd_ge (τ := tz_ ρ) hp).2
  have hend := h.1.2.2.2.2.2
  have hb := (h.1.2.1 _ (show (tz_ ρ 13 p).toNat < 32 by omega)).2.2 b4
  unfold Iu_ at hb
  obtain ⟨kk, hkk⟩ : ∃ kk : Nat, kk = (tz_ ρ 2 (tz_ ρ 13 p).toNat).toNat := ⟨_, rfl⟩
  have hk1 : ρ 2 (ix_ (ρ 13 p)) + 1 = nI (kk + 1) := by
    have q0 : (ρ 2 (ix_ (ρ 13 p))).toInt = tz_ ρ 2 (tz_ ρ 13 p).toNat := rfl
    obtain ⟨e, -⟩ := iz_of (x := ρ 2 (ix_ (ρ 13 p))) (by rw [q0]; omega)
    rw [e, show ix_ (ρ 2 (ix_ (ρ 13 p))) = kk from by rw [iz_ix, q0, hkk], nI_1]
  obtain ⟨f1, f2⟩ := fm_q (a := kk + 1) (d := n) (by omega) (by omega) (by omega)
  have hmod := Nat.mod_lt (kk + 1) (show 0 < n by omega)
  have hqi : ix_ (nI ((kk + 1) % n)) = (kk + 1) % n := nI_clamp (by omega)
  obtain ⟨q, hq⟩ : ∃ q, q = (kk + 1) % n := ⟨_, rfl⟩
  have hmq : ix_ (hm_q n ρ p) = q := by unfold hm_q; rw [hk1, f2, hqi, hq]
  have hcq : hc_helped n σ p = ρ 9 q := by unfold hc_helped; rw [e2, e9, e13, hk1, f1, hqi, hq]
  have hPq := h.1.1 q (by omega)
  unfold Ip_ at hPq
  obtain ⟨d1, d2, d3, d4, d5, d6, d7, d8, d9, -⟩ := hPq
  obtain ⟨w, hw⟩ : ∃ w, w = (if 0 ≤ ρ 9 q ∧ ρ 2 (ix_ (ρ 9 q)) = 0 then ρ 9 q else ρ 12 p) := ⟨_, rfl⟩
  have hE : hm_choose n ρ p = u2_ (u2_ ρ 14 p w) 10 p 4 := by unfold hm_choose; rw [hmq, hw]
  have hE2 : hc_choose n σ p = u2_ (u2_ σ 14 p w) 10 p 4 := by unfold hc_choose; rw [hcq, e2, e12, hw]
  have hw2 : (0 ≤ w.toInt ∧ w.toInt < 32) ∧ tz_ ρ 1 w.toInt.toNat = 1 ∧ (tz_ ρ 2 w.toInt.toNat = 0 ∨ tz_ ρ 2 (tz_ ρ 13 p).toNat < tz_ ρ 2 w.toInt.toNat) := by
    by_cases g : 0 ≤ ρ 9 q ∧ ρ 2 (ix_ (ρ 9 q)) = 0
    · rw [hw, if_pos g]
      obtain ⟨g1, g2⟩ := g
      rw [iz_le, iz_0] at g1
      rw [iz_eq, iz_0] at g2
      have x9 : (ρ 9 q).toInt = tz_ ρ 9 q := rfl
      have act : 1 ≤ tz_ ρ 10 q := by
        by_cases z : tz_ ρ 10 q < 1
        · have := d8 z; omega
        · omega
      obtain ⟨r1, r2, r3, r4, r5, r6⟩ := d9 act
      rw [x9, r1]
      refine ⟨d2, r2, Or.inl ?_⟩
      rw [← r1]
      exact g2
    · rw [hw, if_neg g]
      exact ⟨a2, b2, a11 (by omega) (by omega)⟩
  obtain ⟨ρ', hρ⟩ : ∃ ρ', ρ' = hm_choose n ρ p := ⟨_, rfl⟩
  have t14 : tz_ ρ' 14 p = w.toInt := by rw [hρ, hE, tz_u2, if_neg (by omega), tz_u2, if_pos ⟨rfl, rfl⟩]
  have t10 : tz_ ρ' 10 p = 4 := by rw [hρ, hE, tz_u2, if_pos ⟨rfl, rfl⟩]; exact iz_4
  have rn : ∀ a, a ≠ 10 → a ≠ 14 → ρ' a = ρ a := fun a x10 x14 => by rw [hρ, hE, u2_ne _ _ _ x10, u2_ne _ _ _ x14]
  have tn : ∀ a, a ≠ 10 → a ≠ 14 → tz_ ρ' a = tz_ ρ a := fun a x10 x14 => by funext j; unfold tz_; rw [rn a x10 x14]
  rw [hE2, ← hρ]
  refine jr_proc (p := p) h (fun a _ x10 _ _ x14 => rn a x10 x14) (fun a q e => ?_) (fun a _ x10 _ _ x14 => ?_) ?_ (by omega) (by rw [t10]; omega) ?_
  · rw [hρ, hE, u2_at, if_neg (fun z => e z.2), u2_at, if_neg (fun z => e z.2)]
  · rw [u2_ne _ _ _ x10, u2_ne _ _ _ x14]
  · rw [hρ, hE]; exact ea_u2 (ea_u2 hA _ _ _) _ _ _
  · unfold Ip_
    rw [t14, t10, tn 1 (by omega) (by omega), tn 2 (by omega) (by omega), tn 3 (by omega) (by omega), tn 4 (by omega) (by omega), tn 8 (by omega) (by omega), tn 9 (by omega) (by omega), tn 11 (by omega) (by omega), tn 12 (by omega) (by omega), tn 13 (by omega) (by omega)]
    exact ⟨a1, a2, a3, hw2.1, by omega, a6, a7, by omega, fun _ => ⟨b1, b2, b3, b4, b5, b6⟩, by omega, fun _ _ => a11 (by omega) (by omega), fun _ => hw2.2, by omega, by omega, by omega⟩
end STEP_C
end
section
section STEP_D
variable {K n c p : Nat} {σ ρ : ST_}
theorem jr_prop (h : Jr_ K n c σ ρ) (hp : p < n) (hs : ρ 10 p = 4) : Jr_ K n c (hc_prop σ p) (hm_prop ρ p) := by
  have hA := h.2.1
  have e3 : σ 3 = ρ 3 := hA 3 (dm_of (by omega))
  have e13 : σ 13 = ρ 13 := hA 13 (dm_of (by omega))
  have e14 : σ 14 = ρ 14 := hA 14 (dm_of (by omega))
  have z10 : tz_ ρ 10 p = 4 := by unfold tz_; rw [hs]; exact iz_4
  have hPp := h.1.1 p hp
  unfold Ip_ at hPp
  obtain ⟨a1, a2, a3, a4, a5, a6, a7, a8, a9, a10, a11, a12, a13, a14, a15⟩ := hPp
  obtain ⟨b1, b2, b3, b4, b5, b6⟩ := a9 (by omega)
  obtain ⟨b, hb⟩ : ∃ b, b = ix_ (ρ 13 p) := ⟨_, rfl⟩
  have hbz : (tz_ ρ 13 p).toNat = b := by rw [hb]; rfl
  have hnb := h.1.2.1 b (by omega)
  unfold In_ at hnb
  have x3 : (ρ 3 b).toInt = tz_ ρ 3 b := rfl
  by_cases g : ρ 3 b < 0
  · have hE : hm_prop ρ p = u2_ (u2_ ρ 3 b (ρ 14 p)) 10 p 5 := by
      unfold hm_prop hm_prop1
      rw [← hb, if_pos g]
      congr 1
      have q1 : u2_ ρ 3 b (ρ 14 p) 3 b = (u2_ ρ 3 b (ρ 14 p)) 14 p := by rw [u2_at, if_pos ⟨rfl, rfl⟩, u2_ne _ _ _ (by omega)]
      rw [q1, u2_id]
    have hE2 : hc_prop σ p = u2_ (u2_ σ 3 b (ρ 14 p)) 10 p 5 := by
      unfold hc_prop hc_prop1
      rw [e3, e13, e14, ← hb, if_pos g]
      congr 1
      have q1 : u2_ σ 3 b (ρ 14 p) 3 b = (u2_ σ 3 b (ρ 14 p)) 14 p := by rw [u2_at, if_pos ⟨rfl, rfl⟩, u2_ne _ _ _ (by omega), e14]
      rw [q1, u2_id]
    rw [hE, hE2]
    have tn : ∀ a, a ≠ 3 → a ≠ 10 → tz_ (u2_ (u2_ ρ 3 b (ρ 14 p)) 10 p 5) a = tz_ ρ a := fun a x3 x10 => by
      funext j; rw [tz_u2, if_neg (fun z => x10 z.1), tz_u2, if_neg (fun z => x3 z.1)]
    refine ⟨iv_prop h.1 hp z10 ?_ (by rw [tn 0 (by omega) (by omega)]) (tn 1 (by omega) (by omega)) (tn 2 (by omega) (by omega)) (fun k => ?_) (tn 4 (by omega) (by omega)) (tn 8 (by omega) (by omega)) (tn 9 (by omega) (by omega)) (fun q => ?_) (tn 11 (by omega) (by omega)) (tn 12 (by omega) (by omega)) (tn 13 (by omega) (by omega)) (tn 14 (by omega) (by omega)), ea_u2 (ea_u2 hA _ _ _) _ _ _, ?_⟩
    · rw [hbz, ← x3]
      rw [iz_lt, iz_0] at g
      exact g
    · rw [hbz, tz_u2, if_neg (by omega), tz_u2]
      by_cases e : k = b
      · rw [if_pos ⟨rfl, e⟩, if_pos e]; rfl
      · rw [if_neg (fun z => e z.2), if_neg e]
    · rw [tz_u2]
      by_cases e : q = p
      · rw [if_pos ⟨rfl, e⟩, if_pos e]; exact iz_5
      · rw [if_neg (fun z => e z.2), if_neg e, tz_u2, if_neg (by omega)]
    · refine eb_congr h.2.2 ?_ ?_ ?_ ?_ ?_ ?_ ?_ ?_ ?_ ?_ ?_ ?_ ?_ ?_ ?_ ?_ ?_ ?_ ?_ ?_ ?_ <;> rw [u2_ne _ _ _ (by omega), u2_ne _ _ _ (by omega)]
  · have hE : hm_prop ρ p = u2_ (u2_ ρ 14 p (ρ 3 b)) 10 p 5 := by
      unfold hm_prop hm_prop1
      rw [← hb, if_neg g, u2_id]
    have hE2 : hc_prop σ p = u2_ (u2_ σ 14 p (ρ 3 b)) 10 p 5 := by
      unfold hc_prop hc_prop1
      rw [e3, e13, e14, ← hb, if_neg g, e3]
    rw [iz_lt, iz_0] at g
    rw [hE, hE2]
    obtain ⟨ρ', hρ⟩ : ∃ ρ', ρ' = u2_ (u2_ ρ 14 p (ρ 3 b)) 10 p 5 := ⟨_, rfl⟩
    have t14 : tz_ ρ' 14 p = tz_ ρ 3 b := by rw [hρ, tz_u2, if_neg (by omega), tz_u2, if_pos ⟨rfl, rfl⟩]; rfl
    have t10 : tz_ ρ' 10 p = 5 := by rw [hρ, tz_u2, if_pos ⟨rfl, rfl⟩]; exact iz_5
    have rn : ∀ a, a ≠ 10 → a ≠ 14 → ρ' a = ρ a := fun a x10 x14 => by rw [hρ, u2_ne _ _ _ x10, u2_ne _ _ _ x14]
    have tn : ∀ a, a ≠ 10 → a ≠ 14 → tz_ ρ' a = tz_ ρ a := fun a x10 x14 => by funext j; unfold tz_; rw [rn a x10 x14]
    rw [← hρ]
    refine jr_proc (p := p) h (fun a _ x10 _ _ x14 => rn a x10 x14) (fun a q e => ?_) (fun a _ x10 _ _ x14 => ?_) ?_ (by omega) (by rw [t10]; omega) ?_
    · rw [hρ, u2_at, if_neg (fun z => e z.2), u2_at, if_neg (fun z => e z.2)]
    · rw [u2_ne _ _ _ x10, u2_ne _ _ _ x14]
    · rw [hρ]; exact ea_u2 (ea_u2 hA _ _ _) _ _ _
    · unfold Ip_
      rw [t14, t10, tn 1 (by omega) (by omega), tn 2 (by omega) (by omega), tn 3 (by omega) (by omega), tn 4 (by omega) (by omega), tn 8 (by omega) (by omega), tn 9 (by omega) (by omega), tn 11 (by omega) (by omega), tn 12 (by omega) (by omega), tn 13 (by omega) (by omega)]
      exact ⟨a1, a2, a3, by omega, by omega, a6, a7, by omega, fun _ => ⟨b1, b2, b3, b4, b5, b6⟩, by omega, fun _ _ => a11 (by omega) (by omega), by omega, fun _ _ => by rw [hbz], by omega, by omega⟩
theorem rs_congr {K : Nat} {cd ca cb cd' ca' cb' : Nat → Int32} : ∀ {j : Nat}, (∀ i, i ≤ j + 1 → cd' i = cd i ∧ ca' i = ca i ∧ cb' i = cb i) → rs_ K cd' ca' cb' j = rs_ K cd ca cb j := by
  intro j
  induction j with
  | zero => intro _; rfl
  | succ j ih =>
    intro h
    unfold rs_
    rw [ih (fun i hi => h i (by omega)), (h (j + 2) (by omega)).1, (h (j + 2) (by omega)).2.1, (h (j + 2) (by omega)).2.2]
theorem jr_give (h : Jr_ K n c σ ρ) (hc : c < 100000) (hp : p < n) (hs : ρ 10 p = 5) : Jr_ K n c (hc_give K σ p) (hm_give ρ p) := by
  have hA := h.2.1
  have hB := h.2.2
  have e2 : σ 2 = ρ 2 := hA 2 (dm_of (by omega))
  have e13 : σ 13 = ρ 13 := hA 13 (dm_of (by omega))
  have e14 : σ 14 = ρ 14 := hA 14 (dm_of (by omega))
  have z10 : tz_ ρ 10 p = 5 := by unfold tz_; rw [hs]; exact iz_5
  have hPp := h.1.1 p hp
  unfold Ip_ at hPp
  obtain ⟨a1, a2, a3, a4, a5, a6, a7, a8, a9, a10, a11, a12, a13, a14, a15⟩ := hPp
  obtain ⟨b1, b2, b3, b4, b5, b6⟩ := a9 (by omega)
  have hcell := a13 (by omega) (by omega)
  obtain ⟨b, hb⟩ : ∃ b, b = ix_ (ρ 13 p) := ⟨_, rfl⟩
  have hbz : (tz_ ρ 13 p).toNat = b := by rw [hb]; rfl
  obtain ⟨y, hy⟩ : ∃ y, y = ix_ (ρ 14 p) := ⟨_, rfl⟩
  have hyz : (tz_ ρ 14 p).toNat = y := by rw [hy]; rfl
  rw [hbz] at b4 b5 hcell
  have hb32 : b < 32 := by omega
  have hy32 : y < 32 := by omega
  have hnb := (h.1.2.1 b hb32).2.2 b4
  have hnb1 := hnb.1
  have hnb2 := hnb.2.1
  obtain ⟨y1, y2⟩ := hnb.2.2.2.2.1 (by omega) (by omega)
  rw [← hcell, hyz] at y1 y2
  have hny := (h.1.2.1 y hy32).2.2 y1
  have hny1 := hny.1
  have hny2 := hny.2.1
  have hpd := (pd_ge (τ := tz_ ρ) hp).2
  have hend := h.1.2.2.2.2.2
  have hE1 := h.1.2.2.2.1
  have xb : (ρ 2 b).toInt = tz_ ρ 2 b := rfl
  have xy : (ρ 2 y).toInt = tz_ ρ 2 y := rfl
  have xe : (ρ 0 1).toInt = tz_ ρ 0 1 := rfl
  have hk1 : (ρ 2 b + 1).toInt = tz_ ρ 2 b + 1 := iz_add (by rw [xb]; omega) (by rw [xb]; omega)
  have hu : ρ 1 y = 1 := by rw [iz_eq, iz_1]; exact y1
  by_cases g : tz_ ρ 2 y = 0
  · -- its first number
    have hbe : tz_ ρ 2 b = tz_ ρ 0 1 := by omega
    obtain ⟨kI, hkI⟩ : ∃ kI, kI = ρ 2 b + 1 := ⟨_, rfl⟩
    rw [← hkI] at hk1
    have hmk : hm_k ρ p = kI := by unfold hm_k; rw [← hb, hkI]
    obtain ⟨kN, hkN⟩ : ∃ kN, kN = ix_ kI := ⟨_, rfl⟩
    have hkNz : (kN : Int) = tz_ ρ 0 1 + 1 := by rw [hkN, iz_ix, hk1]; omega
    have hlt : ρ 0 1 < kI := by rw [iz_lt, hk1, xe]; omega
    have hzy : ρ 2 y = 0 := by rw [iz_eq, iz_0]; exact g
    have hz1 : ¬ ρ 2 y = 1 := by rw [iz_eq, iz_1, xy]; omega
    obtain ⟨B1, B2, B3, B4, B5, B6, B7, B8⟩ := hB
    obtain ⟨v4, v5, v6, v7⟩ := B1 y hy32 hu hz1
    have hE : hm_give ρ p = u2_ (u2_ (u2_ (u2_ (u2_ (u2_ ρ 2 y kI) 21 kN (ρ 5 y)) 22 kN (ρ 6 y)) 23 kN (ρ 7 y)) 0 1 kI) 10 p 6 := by
      unfold hm_give
      rw [hmk, ← hy, ← hkN, if_pos hlt]
    obtain ⟨Z, hZ⟩ : ∃ Z, Z = pa_ K (ρ 5 y) (ρ 6 y) (ρ 7 y) (σ 30) (σ 33 0) := ⟨_, rfl⟩
    have hE2 : hc_give K σ p = u2_ (u2_ (u2_ (u2_ (u1_ σ 30 Z.1) 33 0 Z.2.1) 26 y Z.2.2) 2 y kI) 10 p 6 := by
      unfold hc_give hc_give1 hc_perf hc_perfR
      rw [e2, e13, e14, ← hy, ← hb, if_pos hzy, v5, v6, v7, ← hkI, hZ]
    rw [hE, hE2]
    obtain ⟨ρ', hρ⟩ : ∃ ρ', ρ' = u2_ (u2_ (u2_ (u2_ (u2_ (u2_ ρ 2 y kI) 21 kN (ρ 5 y)) 22 kN (ρ 6 y)) 23 kN (ρ 7 y)) 0 1 kI) 10 p 6 := ⟨_, rfl⟩
    obtain ⟨σ', hσ⟩ : ∃ σ', σ' = u2_ (u2_ (u2_ (u2_ (u1_ σ 30 Z.1) 33 0 Z.2.1) 26 y Z.2.2) 2 y kI) 10 p 6 := ⟨_, rfl⟩
    have rn : ∀ a, a ≠ 0 → a ≠ 2 → a ≠ 10 → a ≠ 21 → a ≠ 22 → a ≠ 23 → ρ' a = ρ a := fun a x0 x2 x10 x21 x22 x23 => by
      rw [hρ, u2_ne _ _ _ x10, u2_ne _ _ _ x0, u2_ne _ _ _ x23, u2_ne _ _ _ x22, u2_ne _ _ _ x21, u2_ne _ _ _ x2]
    have sn : ∀ a, a ≠ 2 → a ≠ 10 → a ≠ 26 → a ≠ 30 → a ≠ 33 → σ' a = σ a := fun a x2 x10 x26 x30 x33 => by
      rw [hσ, u2_ne _ _ _ x10, u2_ne _ _ _ x2, u2_ne _ _ _ x26, u2_ne _ _ _ x33, u1_ne _ _ x30]
    have tn : ∀ a, a ≠ 0 → a ≠ 2 → a ≠ 10 → a ≠ 21 → a ≠ 22 → a ≠ 23 → tz_ ρ' a = tz_ ρ a := fun a x0 x2 x10 x21 x22 x23 => by
      funext j; unfold tz_; rw [rn a x0 x2 x10 x21 x22 x23]
    have r2 : ∀ k, ρ' 2 k = if k = y then kI else ρ 2 k := fun k => by
      rw [hρ, u2_ne _ _ _ (by omega), u2_ne _ _ _ (by omega), u2_ne _ _ _ (by omega), u2_ne _ _ _ (by omega), u2_ne _ _ _ (by omega), u2_at]
      by_cases e : k = y
      · rw [if_pos ⟨rfl, e⟩, if_pos e]
      · rw [if_neg (fun z => e z.2), if_neg e]
    have r01 : ρ' 0 1 = kI := by rw [hρ, u2_ne _ _ _ (by omega), u2_at, if_pos ⟨rfl, rfl⟩]
    have r03 : ρ' 0 3 = ρ 0 3 := by
      rw [hρ, u2_ne _ _ _ (by omega), u2_at, if_neg (by omega), u2_ne _ _ _ (by omega), u2_ne _ _ _ (by omega), u2_ne _ _ _ (by omega), u2_ne _ _ _ (by omega)]
    have r21 : ∀ i, ρ' 21 i = if i = kN then ρ 5 y else ρ 21 i := fun i => by
      rw [hρ, u2_ne _ _ _ (by omega), u2_ne _ _ _ (by omega), u2_ne _ _ _ (by omega), u2_ne _ _ _ (by omega), u2_at, u2_ne _ _ _ (by omega)]
      by_cases e : i = kN
      · rw [if_pos ⟨rfl, e⟩, if_pos e]
      · rw [if_neg (fun z => e z.2), if_neg e]
    have r22 : ∀ i, ρ' 22 i = if i = kN then ρ 6 y else ρ 22 i := fun i => by
      rw [hρ, u2_ne _ _ _ (by omega), u2_ne _ _ _ (by omega), u2_ne _ _ _ (by omega), u2_at, u2_ne _ _ _ (by omega), u2_ne _ _ _ (by omega)]
      by_cases e : i = kN
      · rw [if_pos ⟨rfl, e⟩, if_pos e]
      · rw [if_neg (fun z => e z.2), if_neg e]
    have r23 : ∀ i, ρ' 23 i = if i = kN then ρ 7 y else ρ 23 i := fun i => by
      rw [hρ, u2_ne _ _ _ (by omega), u2_ne _ _ _ (by omega), u2_at, u2_ne _ _ _ (by omega), u2_ne _ _ _ (by omega), u2_ne _ _ _ (by omega)]
      by_cases e : i = kN
      · rw [if_pos ⟨rfl, e⟩, if_pos e]
      · rw [if_neg (fun z => e z.2), if_neg e]
    have s26 : ∀ k, σ' 26 k = if k = y then Z.2.2 else σ 26 k := fun k => by
      rw [hσ, u2_ne _ _ _ (by omega), u2_ne _ _ _ (by omega), u2_at, u2_ne _ _ _ (by omega), u1_ne _ _ (by omega)]
      by_cases e : k = y
      · rw [if_pos ⟨rfl, e⟩, if_pos e]
      · rw [if_neg (fun z => e z.2), if_neg e]
    have s30 : σ' 30 = Z.1 := by rw [hσ, u2_ne _ _ _ (by omega), u2_ne _ _ _ (by omega), u2_ne _ _ _ (by omega), u2_ne _ _ _ (by omega), u1_same]
    have s330 : σ' 33 0 = Z.2.1 := by rw [hσ, u2_ne _ _ _ (by omega), u2_ne _ _ _ (by omega), u2_ne _ _ _ (by omega), u2_at, if_pos ⟨rfl, rfl⟩]
    have s332 : σ' 33 2 = σ 33 2 := by rw [hσ, u2_ne _ _ _ (by omega), u2_ne _ _ _ (by omega), u2_ne _ _ _ (by omega), u2_at, if_neg (by omega), u1_ne _ _ (by omega)]
    have hrs : ∀ j, j + 1 < kN → rs_ K (ρ' 21) (ρ' 22) (ρ' 23) j = rs_ K (ρ 21) (ρ 22) (ρ 23) j := fun j hj => rs_congr (fun i hi => by
      rw [r21, r22, r23, if_neg (by omega), if_neg (by omega), if_neg (by omega)]
      exact ⟨rfl, rfl, rfl⟩)
    have hie : ix_ (ρ 0 1) = kN - 1 := by rw [iz_ix, xe]; omega
    rw [hie] at B3
    have hlast : rs_ K (ρ' 21) (ρ' 22) (ρ' 23) (kN - 1) = Z := by
      obtain ⟨j, hj⟩ : ∃ j, kN = j + 2 := ⟨kN - 2, by omega⟩
      rw [hj, show j + 2 - 1 = j + 1 from rfl]
      unfold rs_
      rw [hrs j (by omega), r21, r22, r23, if_pos hj.symm, if_pos hj.symm, if_pos hj.symm, hZ, B3.1, B3.2, hj, show j + 2 - 1 - 1 = j from rfl]
    rw [← hρ, ← hσ]
    refine ⟨iv_give h.1 hp z10 (by rw [hyz]; exact g) ?_ (tn 1 (by omega) (by omega) (by omega) (by omega) (by omega) (by omega)) (fun k => ?_) (tn 3 (by omega) (by omega) (by omega) (by omega) (by omega) (by omega)) (tn 4 (by omega) (by omega) (by omega) (by omega) (by omega) (by omega)) (tn 8 (by omega) (by omega) (by omega) (by omega) (by omega) (by omega)) (tn 9 (by omega) (by omega) (by omega) (by omega) (by omega) (by omega)) (fun q => ?_) (tn 11 (by omega) (by omega) (by omega) (by omega) (by omega) (by omega)) (tn 12 (by omega) (by omega) (by omega) (by omega) (by omega) (by omega)) (tn 13 (by omega) (by omega) (by omega) (by omega) (by omega) (by omega)) (tn 14 (by omega) (by omega) (by omega) (by omega) (by omega) (by omega)), ?_, ?_⟩
    · show (ρ' 0 1).toInt = _
      rw [r01, hk1, hbe]
    · show (ρ' 2 k).toInt = _
      rw [r2 k, hyz]
      by_cases e : k = y
      · rw [if_pos e, if_pos e, hk1, hbe]
      · rw [if_neg e, if_neg e]; rfl
    · show (ρ' 10 q).toInt = _
      rw [hρ, u2_at]
      by_cases e : q = p
      · rw [if_pos ⟨rfl, e⟩, if_pos e]; exact iz_6
      · rw [if_neg (fun z => e z.2), if_neg e, u2_ne _ _ _ (by omega), u2_ne _ _ _ (by omega), u2_ne _ _ _ (by omega), u2_ne _ _ _ (by omega), u2_ne _ _ _ (by omega)]; rfl
    · rw [hρ, hσ]
      have d0 : ¬ dm_ 0 := by unfold dm_; omega
      have d21 : ¬ dm_ 21 := by unfold dm_; omega
      have d22 : ¬ dm_ 22 := by unfold dm_; omega
      have d23 : ¬ dm_ 23 := by unfold dm_; omega
      have d26 : ¬ dm_ 26 := by unfold dm_; omega
      have d30 : ¬ dm_ 30 := by unfold dm_; omega
      have d33 : ¬ dm_ 33 := by unfold dm_; omega
      exact ea_u2 (ea_r (ea_r (ea_r (ea_r (ea_u2 (ea_l (ea_l (ea_l1 hA d30 _) d33 _ _) d26 _ _) _ _ _) d21 _ _) d22 _ _) d23 _ _) d0 _ _) _ _ _
    · have q1 := rn 1 (by omega) (by omega) (by omega) (by omega) (by omega) (by omega)
      have q4 := rn 4 (by omega) (by omega) (by omega) (by omega) (by omega) (by omega)
      have q5 := rn 5 (by omega) (by omega) (by omega) (by omega) (by omega) (by omega)
      have q6 := rn 6 (by omega) (by omega) (by omega) (by omega) (by omega) (by omega)
      have q7 := rn 7 (by omega) (by omega) (by omega) (by omega) (by omega) (by omega)
      have q15 := rn 15 (by omega) (by omega) (by omega) (by omega) (by omega) (by omega)
      have q25 := rn 25 (by omega) (by omega) (by omega) (by omega) (by omega) (by omega)
      have w4 := sn 4 (by omega) (by omega) (by omega) (by omega) (by omega)
      have w5 := sn 5 (by omega) (by omega) (by omega) (by omega) (by omega)
      have w6 := sn 6 (by omega) (by omega) (by omega) (by omega) (by omega)
      have w7 := sn 7 (by omega) (by omega) (by omega) (by omega) (by omega)
      have w32 := sn 32 (by omega) (by omega) (by omega) (by omega) (by omega)
      have hk2 : 2 ≤ kI.toInt := by rw [hk1]; omega
      have hbound : ∀ k, k < 32 → ρ 1 k = 1 → ix_ (ρ 2 k) < kN := fun k hk h1 => by
        have hnk := ((h.1.2.1 k hk).2.2 (by show (ρ 1 k).toInt = 1; rw [h1]; exact iz_1)).2.1
        have x : (ρ 2 k).toInt = tz_ ρ 2 k := rfl
        rw [iz_ix, x]
        omega
      refine ⟨fun k hk h1 h2 => ?_, fun k hk h1 h2 => ?_, ?_, fun k hk h1 h2 => ?_, fun k hk h1 h2 => ?_, ?_, ?_, ?_⟩
      · rw [q1] at h1
        rw [w4, w5, w6, w7, q4, q5, q6, q7]
        by_cases e : k = y
        · rw [e]; exact ⟨v4, v5, v6, v7⟩
        · rw [r2, if_neg e] at h2
          exact B1 k hk h1 h2
      · rw [q1] at h1
        rw [w4, w5, w6, w7]
        by_cases e : k = y
        · rw [r2, if_pos e, iz_eq, iz_1] at h2
          omega
        · rw [r2, if_neg e] at h2
          exact B2 k hk h1 h2
      · rw [r01, ← hkN, hlast, s30, s330]
        exact ⟨rfl, rfl⟩
      · rw [q1] at h1
        by_cases e : k = y
        · rw [s26, if_pos e, r2, if_pos e, ← hkN, hlast]
        · rw [r2, if_neg e] at h2 ⊢
          rw [s26, if_neg e, hrs _ (by have := hbound k hk h1; have := iz_ix (ρ 2 k); omega)]
          exact B4 k hk h1 h2
      · rw [q1] at h1
        rw [q5, q6, q7]
        by_cases e : k = y
        · rw [r2, if_pos e, ← hkN, r21, r22, r23, if_pos rfl, if_pos rfl, if_pos rfl, e]
          exact ⟨rfl, rfl, rfl⟩
        · rw [r2, if_neg e] at h2 ⊢
          have hne : ¬ ix_ (ρ 2 k) = kN := by have := hbound k hk h1; omega
          rw [r21, r22, r23, if_neg hne, if_neg hne, if_neg hne]
          exact B5 k hk h1 h2
      · rw [w32, q25, s332, r03]; exact B6
      · rw [q15]; exact B7
      · rw [q5]; exact B8
  · -- it has its number already
    have g2 : tz_ ρ 2 y = tz_ ρ 2 b + 1 := by omega
    have hk2 : hm_k ρ p = ρ 2 y := by
      unfold hm_k
      rw [← hb, iz_eq, hk1, xy, g2]
    obtain ⟨B1, B2, B3, B4, B5, B6, B7, B8⟩ := id hB
    obtain ⟨v1, v2, v3⟩ := B5 y hy32 hu (by rw [xy]; omega)
    have hnl : ¬ ρ 0 1 < ρ 2 y := by rw [iz_lt, xe, xy]; omega
    have hE : hm_give ρ p = u2_ ρ 10 p 6 := by
      unfold hm_give
      rw [hk2, ← hy, u2_id, ← v1, ← v2, ← v3, u2_id, u2_id, u2_id, if_neg hnl, u2_id]
    have hz : ¬ ρ 2 y = 0 := by rw [iz_eq, iz_0, xy]; exact g
    have hE2 : hc_give K σ p = u2_ σ 10 p 6 := by
      unfold hc_give hc_give1
      rw [e2, e13, e14, ← hy, ← hb, if_neg hz]
      have q : ρ 2 b + 1 = σ 2 y := by rw [e2, iz_eq, hk1, xy, g2]
      rw [q, u2_id]
    rw [hE, hE2]
    have t10 : tz_ (u2_ ρ 10 p 6) 10 p = 6 := by rw [tz_u2, if_pos ⟨rfl, rfl⟩]; exact iz_6
    have tn : ∀ a, a ≠ 10 → tz_ (u2_ ρ 10 p 6) a = tz_ ρ a := fun a ha => by
      funext j; rw [tz_u2, if_neg (fun q => ha q.1)]
    refine jr_proc (p := p) h (fun a _ x _ _ _ => u2_ne _ _ _ x) (fun a q e => ?_) (fun a _ x _ _ _ => u2_ne _ _ _ x) (ea_u2 hA _ _ _) (by omega) (by rw [t10]; omega) ?_
    · rw [u2_at, if_neg (fun z => e z.2)]
    · unfold Ip_
      rw [tn 1 (by omega), tn 2 (by omega), tn 3 (by omega), tn 4 (by omega), tn 8 (by omega), tn 9 (by omega), tn 11 (by omega), tn 12 (by omega), tn 13 (by omega), tn 14 (by omega), t10]
      exact ⟨a1, a2, a3, a4, by omega, a6, a7, by omega, fun _ => a9 (by omega), by omega, fun _ _ => a11 (by omega) (by omega), by omega, fun _ _ => a13 (by omega) (by omega), fun _ => by rw [hyz, hbz]; exact g2, by omega⟩
end STEP_D
end
section
section STEP_E
variable {K n c p : Nat} {σ ρ : ST_}
theorem hf_ne (K : Nat) (ρ : ST_) (p : Nat) {a : Nat} (h0 : a ≠ 0) (h8 : a ≠ 8) (h9 : a ≠ 9) (h10 : a ≠ 10) (h18 : a ≠ 18) (h19 : a ≠ 19) (h20 : a ≠ 20) (h24 : a ≠ 24) : hm_fin K ρ p a = ρ a := by
  unfold hm_fin hm_fin1 hm_rep
  rw [u2_ne _ _ _ h10, u2_ne _ _ _ h18, u2_ne _ _ _ h19, u2_ne _ _ _ h0, u1_ne _ _ h24, u2_ne _ _ _ h20, u2_ne _ _ _ h9, u2_ne _ _ _ h8]
theorem hf_0 (K : Nat) (ρ : ST_) (p : Nat) {i : Nat} (h : i ≠ 2) : hm_fin K ρ p 0 i = ρ 0 i := by
  unfold hm_fin hm_fin1 hm_rep
  rw [u2_ne _ _ _ (by omega), u2_ne _ _ _ (by omega), u2_ne _ _ _ (by omega), u2_at, if_neg (fun z => h z.2), u1_ne _ _ (by omega), u2_ne _ _ _ (by omega), u2_ne _ _ _ (by omega), u2_ne _ _ _ (by omega)]
theorem hf_8 (K : Nat) (ρ : ST_) (p q : Nat) : hm_fin K ρ p 8 q = if q = p then ρ 12 p else ρ 8 q := by
  unfold hm_fin hm_fin1 hm_rep
  rw [u2_ne _ _ _ (by omega), u2_ne _ _ _ (by omega), u2_ne _ _ _ (by omega), u2_ne _ _ _ (by omega), u1_ne _ _ (by omega), u2_ne _ _ _ (by omega), u2_ne _ _ _ (by omega), u2_at]
  by_cases e : q = p
  · rw [if_pos ⟨rfl, e⟩, if_pos e]
  · rw [if_neg (fun z => e z.2), if_neg e]
theorem hf_9 (K : Nat) (ρ : ST_) (p q : Nat) : hm_fin K ρ p 9 q = if q = p then -1 else ρ 9 q := by
  unfold hm_fin hm_fin1 hm_rep
  rw [u2_ne _ _ _ (by omega), u2_ne _ _ _ (by omega), u2_ne _ _ _ (by omega), u2_ne _ _ _ (by omega), u1_ne _ _ (by omega), u2_ne _ _ _ (by omega), u2_at, u2_ne _ _ _ (by omega)]
  by_cases e : q = p
  · rw [if_pos ⟨rfl, e⟩, if_pos e]
  · rw [if_neg (fun z => e z.2), if_neg e]
theorem hf_10 (K : Nat) (ρ : ST_) (p q : Nat) : hm_fin K ρ p 10 q = if q = p then -1 else ρ 10 q := by
  unfold hm_fin hm_fin1 hm_rep
  rw [u2_at, u2_ne _ _ _ (by omega), u2_ne _ _ _ (by omega), u2_ne _ _ _ (by omega), u1_ne _ _ (by omega), u2_ne _ _ _ (by omega), u2_ne _ _ _ (by omega), u2_ne _ _ _ (by omega)]
  by_cases e : q = p
  · rw [if_pos ⟨rfl, e⟩, if_pos e]
  · rw [if_neg (fun z => e z.2), if_neg e]
theorem jr_fin (h : Jr_ K n c σ ρ) (hp : p < n) (hs : ρ 10 p = 7) : Jr_ K n c (hc_fin σ p) (hm_fin K ρ p) := by
  have hA := h.2.1
  have hB := h.2.2
  have e2 : σ 2 = ρ 2 := hA 2 (dm_of (by omega))
  have e12 : σ 12 = ρ 12 := hA 12 (dm_of (by omega))
  have e18 : σ 18 = ρ 18 := hA 18 (dm_of (by omega))
  have z10 : tz_ ρ 10 p = 7 := by unfold tz_; rw [hs]; exact iz_7
  have hPp := h.1.1 p hp
  unfold Ip_ at hPp
  obtain ⟨a1, a2, a3, a4, a5, a6, a7, a8, a9, a10, a11, a12, a13, a14, a15⟩ := hPp
  obtain ⟨b1, b2, b3, b4, b5, b6⟩ := a9 (by omega)
  have own1 := a15 z10
  obtain ⟨o, ho⟩ : ∃ o, o = ix_ (ρ 12 p) := ⟨_, rfl⟩
  have hoz : (tz_ ρ 12 p).toNat = o := by rw [ho]; rfl
  rw [hoz] at b2 b3 own1
  have ho32 : o < 32 := by omega
  have hno := (h.1.2.1 o ho32).2.2 b2
  have hno1 := hno.1
  have hno2 := hno.2.1
  have xo : (ρ 2 o).toInt = tz_ ρ 2 o := rfl
  have own2 : 2 ≤ (ρ 2 o).toInt := by
    rw [xo]
    by_cases g : tz_ ρ 2 o = 1
    · have := hno.2.2.2.2.2 g; omega
    · omega
  have hans : σ 26 o = hm_repR K (ix_ (ρ 2 o) - 1) ρ := hB.2.2.2.1 o ho32 (by rw [iz_eq, iz_1]; exact b2) own2
  have rn := fun {a : Nat} => hf_ne K ρ p (a := a)
  have tn : ∀ a, a ≠ 0 → a ≠ 8 → a ≠ 9 → a ≠ 10 → a ≠ 18 → a ≠ 19 → a ≠ 20 → a ≠ 24 → tz_ (hm_fin K ρ p) a = tz_ ρ a := fun a x0 x8 x9 x10 x18 x19 x20 x24 => by
    funext j; unfold tz_; rw [hf_ne K ρ p x0 x8 x9 x10 x18 x19 x20 x24]
  refine ⟨iv_fin h.1 hp z10 ?_ (tn 1 (by omega) (by omega) (by omega) (by omega) (by omega) (by omega) (by omega) (by omega)) (tn 2 (by omega) (by omega) (by omega) (by omega) (by omega) (by omega) (by omega) (by omega)) (tn 3 (by omega) (by omega) (by omega) (by omega) (by omega) (by omega) (by omega) (by omega)) (tn 4 (by omega) (by omega) (by omega) (by omega) (by omega) (by omega) (by omega) (by omega)) (fun q => ?_) (fun q => ?_) (fun q => ?_) (tn 11 (by omega) (by omega) (by omega) (by omega) (by omega) (by omega) (by omega) (by omega)) (tn 12 (by omega) (by omega) (by omega) (by omega) (by omega) (by omega) (by omega) (by omega)) (tn 13 (by omega) (by omega) (by omega) (by omega) (by omega) (by omega) (by omega) (by omega)) (tn 14 (by omega) (by omega) (by omega) (by omega) (by omega) (by omega) (by omega) (by omega)), ?_, ?_⟩
  · show (hm_fin K ρ p 0 1).toInt = _
    rw [hf_0 K ρ p (by omega)]; rfl
  · show (hm_fin K ρ p 8 q).toInt = _
    rw [hf_8]
    by_cases e : q = p
    · rw [if_pos e, if_pos e]; rfl
    · rw [if_neg e, if_neg e]; rfl
  · show (hm_fin K ρ p 9 q).toInt = _
    rw [hf_9]
    by_cases e : q = p
    · rw [if_pos e, if_pos e]; exact iz_m
    · rw [if_neg e, if_neg e]; rfl
  · show (hm_fin K ρ p 10 q).toInt = _
    rw [hf_10]
    by_cases e : q = p
    · rw [if_pos e, if_pos e]; exact iz_m
    · rw [if_neg e, if_neg e]; rfl
  · intro a ha
    funext q
    unfold hc_fin hm_fin hm_fin1 hm_rep
    rw [e2, e12, e18, ← ho, hans]
    have n0 : a ≠ 0 := by unfold dm_ at ha; omega
    have n24 : a ≠ 24 := by unfold dm_ at ha; omega
    have hq := congrFun (hA a ha) q
    rw [u2_at _ 10 p _ a q, u2_at _ 20 p _ a q, u2_at _ 19 p _ a q, u2_at _ 18 p _ a q, u2_at _ 9 p _ a q, u2_at _ 8 p _ a q, hq]
    rw [u2_at _ 10 p _ a q, u2_at _ 18 p _ a q, u2_at _ 19 p _ a q, u2_ne _ _ _ n0, u1_ne _ _ n24, u2_at _ 20 p _ a q, u2_at _ 9 p _ a q, u2_at _ 8 p _ a q]
    by_cases e : q = p
    · by_cases c10 : a = 10
      · subst c10; simp [e]
      · by_cases c20 : a = 20
        · subst c20; simp [e]
        · by_cases c19 : a = 19
          · subst c19; simp [e]
          · simp only [c10, c20, c19, false_and, if_false]
    · simp only [e, and_false, if_false]
  · refine eb_congr hB ?_ ?_ ?_ ?_ ?_ ?_ ?_ ?_ (rn (by omega) (by omega) (by omega) (by omega) (by omega) (by omega) (by omega) (by omega)) (rn (by omega) (by omega) (by omega) (by omega) (by omega) (by omega) (by omega) (by omega)) (rn (by omega) (by omega) (by omega) (by omega) (by omega) (by omega) (by omega) (by omega)) (rn (by omega) (by omega) (by omega) (by omega) (by omega) (by omega) (by omega) (by omega)) (rn (by omega) (by omega) (by omega) (by omega) (by omega) (by omega) (by omega) (by omega)) (rn (by omega) (by omega) (by omega) (by omega) (by omega) (by omega) (by omega) (by omega)) (rn (by omega) (by omega) (by omega) (by omega) (by omega) (by omega) (by omega) (by omega)) (rn (by omega) (by omega) (by omega) (by omega) (by omega) (by omega) (by omega) (by omega)) (rn (by omega) (by omega) (by omega) (by omega) (by omega) (by omega) (by omega) (by omega)) (rn (by omega) (by omega) (by omega) (by omega) (by omega) (by omega) (by omega) (by omega)) (rn (by omega) (by omega) (by omega) (by omega) (by omega) (by omega) (by omega) (by omega)) (hf_0 K ρ p (by omega)) (hf_0 K ρ p (by omega)) <;>
      (unfold hc_fin; rw [u2_ne _ _ _ (by omega), u2_ne _ _ _ (by omega), u2_ne _ _ _ (by omega), u2_ne _ _ _ (by omega), u2_ne _ _ _ (by omega), u2_ne _ _ _ (by omega)])
/-- looked for from the front or from the end, it is the same -/
theorem ff_succ (P : Nat → Bool) : ∀ (n i : Nat), ff_ P i (n + 1) = match ff_ P i n with
    | some k => some k
    | none => cond (P (i + n)) (some (i + n)) none := by
  intro n
  induction n with
  | zero => intro i; rfl
  | succ n ih =>
    intro i
    have h1 : ff_ P i (n + 1 + 1) = cond (P i) (some i) (ff_ P (i + 1) (n + 1)) := rfl
    have h2 : ff_ P i (n + 1) = cond (P i) (some i) (ff_ P (i + 1) n) := rfl
    rw [h1, h2]
    cases hp : P i with
    | true => rfl
    | false =>
      show ff_ P (i + 1) (n + 1) = _
      rw [ih (i + 1), show i + 1 + n = i + (n + 1) by omega]
      rfl
theorem fd_ff (P : Nat → Bool) : ∀ (n : Nat) (r : Int32), fd_ P n r = match ff_ P 0 n with
    | some k => nI k
    | none => r := by
  intro n
  induction n with
  | zero => intro r; rfl
  | succ n ih =>
    intro r
    have h1 : fd_ P (n + 1) r = fd_ P n (cond (P n) (nI n) r) := rfl
    rw [h1, ih, ff_succ, show 0 + n = n by omega]
    cases ff_ P 0 n with
    | some k => rfl
    | none => cases P n <;> rfl
theorem hm_free_eq (h : Ea_ σ ρ) : hm_free ρ = match hc_free σ with
    | some k => nI k
    | none => -1 := by
  have e1 : σ 1 = ρ 1 := h 1 (dm_of (by omega))
  unfold hm_free hc_free
  rw [e1]
  exact fd_ff _ 32 (-1)
theorem jr_annS {k : Nat} (h : Jr_ K n c σ ρ) (hn : n ≤ 5) (hp : p < n) (hs : ρ 10 p = 0) (hk : k < 32) (hf : ρ 1 k = 0) : Jr_ K n c (hc_annS σ k p) (hm_annS ρ (nI k) p) := by
  have hA := h.2.1
  have hB := h.2.2
  have e8 : σ 8 = ρ 8 := hA 8 (dm_of (by omega))
  have e15 : σ 15 = ρ 15 := hA 15 (dm_of (by omega))
  have e16 : σ 16 = ρ 16 := hA 16 (dm_of (by omega))
  have e17 : σ 17 = ρ 17 := hA 17 (dm_of (by omega))
  have z10 : tz_ ρ 10 p = 0 := by unfold tz_; rw [hs]; exact iz_0
  have hik : ix_ (nI k) = k := nI_clamp (by omega)
  have hkz : (nI k).toInt = k := iz_nI (by omega)
  have hpz : (nI p).toInt = p := iz_nI (by omega)
  have R : ∀ a j, hm_annS ρ (nI k) p a j = if a = 10 ∧ j = p then 1 else if a = 11 ∧ j = p then 0 else if a = 13 ∧ j = p then ρ 8 p else if a = 9 ∧ j = p then nI k else if a = 12 ∧ j = p then nI k else if a = 7 ∧ j = k then ρ 17 p else if a = 6 ∧ j = k then ρ 16 p else if a = 5 ∧ j = k then ρ 15 p else if a = 4 ∧ j = k then nI p else if a = 3 ∧ j = k then -1 else if a = 2 ∧ j = k then 0 else if a = 1 ∧ j = k then 1 else ρ a j := fun a j => by
    unfold hm_annS
    rw [hik, u2_at, u2_at, u2_at, u2_at, u2_at, u2_at, u2_at, u2_at, u2_at, u2_at, u2_at, u2_at]
  have S : ∀ a j, hc_annS σ k p a j = if a = 10 ∧ j = p then 1 else if a = 11 ∧ j = p then 0 else if a = 13 ∧ j = p then ρ 8 p else if a = 9 ∧ j = p then nI k else if a = 12 ∧ j = p then nI k else if a = 3 ∧ j = k then -1 else if a = 2 ∧ j = k then 0 else if a = 7 ∧ j = k then ρ 17 p else if a = 6 ∧ j = k then ρ 16 p else if a = 5 ∧ j = k then ρ 15 p else if a = 4 ∧ j = k then nI p else if a = 1 ∧ j = k then 1 else σ a j := fun a j => by
    unfold hc_annS hc_take
    rw [e8, e15, e16, e17, u2_at, u2_at, u2_at, u2_at, u2_at, u2_at, u2_at, u2_at, u2_at, u2_at, u2_at, u2_at]
  obtain ⟨ρ', hρ⟩ : ∃ ρ', ρ' = hm_annS ρ (nI k) p := ⟨_, rfl⟩
  obtain ⟨σ', hσ⟩ : ∃ σ', σ' = hc_annS σ k p := ⟨_, rfl⟩
  rw [← hρ] at R ⊢
  rw [← hσ] at S ⊢
  have T : ∀ a j, tz_ ρ' a j = (ρ' a j).toInt := fun _ _ => rfl
  have rn : ∀ a, (a = 0 ∨ a = 8 ∨ 14 ≤ a) → ρ' a = ρ a := fun a ha => by
    funext j
    rw [R]
    simp only [show ¬ a = 10 by omega, show ¬ a = 11 by omega, show ¬ a = 13 by omega, show ¬ a = 9 by omega, show ¬ a = 12 by omega, show ¬ a = 7 by omega, show ¬ a = 6 by omega, show ¬ a = 5 by omega, show ¬ a = 4 by omega, show ¬ a = 3 by omega, show ¬ a = 2 by omega, show ¬ a = 1 by omega, false_and, if_false]
  have sn : ∀ a, (a = 0 ∨ a = 8 ∨ 14 ≤ a) → σ' a = σ a := fun a ha => by
    funext j
    rw [S]
    simp only [show ¬ a = 10 by omega, show ¬ a = 11 by omega, show ¬ a = 13 by omega, show ¬ a = 9 by omega, show ¬ a = 12 by omega, show ¬ a = 7 by omega, show ¬ a = 6 by omega, show ¬ a = 5 by omega, show ¬ a = 4 by omega, show ¬ a = 3 by omega, show ¬ a = 2 by omega, show ¬ a = 1 by omega, false_and, if_false]
  have tn : ∀ a, (a = 0 ∨ a = 8 ∨ 14 ≤ a) → tz_ ρ' a = tz_ ρ a := fun a ha => by
    funext j; unfold tz_; rw [rn a ha]
  refine ⟨iv_ann (k0 := k) h.1 hp z10 hk (by show (ρ 1 k).toInt = 0; rw [hf]; exact iz_0) (by rw [tn 0 (by omega)]) (fun j => ?_) (fun j => ?_) (fun j => ?_) (fun j => ?_) (tn 8 (by omega)) (fun q => ?_) (fun q => ?_) (fun q => ?_) (fun q => ?_) (fun q => ?_) (tn 14 (by omega)), ?_, ?_⟩
  · rw [T, R]
    by_cases e : j = k
    · subst e; simp [iz_1]
    · simp [e]; rfl
  · rw [T, R]
    by_cases e : j = k
    · subst e; simp [iz_0]
    · simp [e]; rfl
  · rw [T, R]
    by_cases e : j = k
    · subst e; simp [iz_m]
    · simp [e]; rfl
  · rw [T, R]
    by_cases e : j = k
    · subst e; simp [hpz]
    · simp [e]; rfl
  · rw [T, R]
    by_cases e : q = p
    · subst e; simp [hkz]
    · simp [e]; rfl
  · rw [T, R]
    by_cases e : q = p
    · subst e; simp [iz_1]
    · simp [e]; rfl
  · rw [T, R]
    by_cases e : q = p
    · subst e; simp [iz_0]
    · simp [e]; rfl
  · rw [T, R]
    by_cases e : q = p
    · subst e; simp [hkz]
    · simp [e]; rfl
  · rw [T, R]
    by_cases e : q = p
    · subst e; simp; rfl
    · simp [e]; rfl
  · intro a ha
    funext j
    rw [R, S, hA a ha]
    have n7 : ¬ a = 7 := by unfold dm_ at ha; omega
    have n6 : ¬ a = 6 := by unfold dm_ at ha; omega
    have n5 : ¬ a = 5 := by unfold dm_ at ha; omega
    have n4 : ¬ a = 4 := by unfold dm_ at ha; omega
    simp only [n7, n6, n5, n4, false_and, if_false]
  · obtain ⟨B1, B2, B3, B4, B5, B6, B7, B8⟩ := hB
    have r1 : ∀ j, ρ' 1 j = if j = k then 1 else ρ 1 j := fun j => by rw [R]; by_cases e : j = k <;> simp [e]
    have r2 : ∀ j, ρ' 2 j = if j = k then 0 else ρ 2 j := fun j => by rw [R]; by_cases e : j = k <;> simp [e]
    have r4 : ∀ j, ρ' 4 j = if j = k then nI p else ρ 4 j := fun j => by rw [R]; by_cases e : j = k <;> simp [e]
    have r5 : ∀ j, ρ' 5 j = if j = k then ρ 15 p else ρ 5 j := fun j => by rw [R]; by_cases e : j = k <;> simp [e]
    have r6 : ∀ j, ρ' 6 j = if j = k then ρ 16 p else ρ 6 j := fun j => by rw [R]; by_cases e : j = k <;> simp [e]
    have r7 : ∀ j, ρ' 7 j = if j = k then ρ 17 p else ρ 7 j := fun j => by rw [R]; by_cases e : j = k <;> simp [e]
    have s4 : ∀ j, σ' 4 j = if j = k then nI p else σ 4 j := fun j => by rw [S]; by_cases e : j = k <;> simp [e]
    have s5 : ∀ j, σ' 5 j = if j = k then ρ 15 p else σ 5 j := fun j => by rw [S]; by_cases e : j = k <;> simp [e]
    have s6 : ∀ j, σ' 6 j = if j = k then ρ 16 p else σ 6 j := fun j => by rw [S]; by_cases e : j = k <;> simp [e]
    have s7 : ∀ j, σ' 7 j = if j = k then ρ 17 p else σ 7 j := fun j => by rw [S]; by_cases e : j = k <;> simp [e]
    unfold Eb_
    rw [rn 0 (by omega), rn 15 (by omega), rn 21 (by omega), rn 22 (by omega), rn 23 (by omega), rn 25 (by omega), sn 26 (by omega), sn 30 (by omega), sn 32 (by omega), sn 33 (by omega)]
    refine ⟨fun j hj h1 h2 => ?_, fun j hj h1 h2 => ?_, B3, fun j hj h1 h2 => ?_, fun j hj h1 h2 => ?_, B6, B7, fun j hj => ?_⟩
    · rw [s4, s5, s6, s7, r4, r5, r6, r7]
      by_cases e : j = k
      · simp [e]
      · rw [r1, if_neg e] at h1
        rw [r2, if_neg e] at h2
        simp only [e, if_false]
        exact B1 j hj h1 h2
    · by_cases e : j = k
      · rw [r2, if_pos e] at h2
        exact absurd h2 (by decide)
      · rw [r1, if_neg e] at h1
        rw [r2, if_neg e] at h2
        rw [s4, s5, s6, s7, if_neg e, if_neg e, if_neg e, if_neg e]
        exact B2 j hj h1 h2
    · by_cases e : j = k
      · rw [r2, if_pos e, iz_0] at h2
        omega
      · rw [r1, if_neg e] at h1
        rw [r2, if_neg e] at h2 ⊢
        exact B4 j hj h1 h2
    · by_cases e : j = k
      · rw [r2, if_pos e, iz_0] at h2
        omega
      · rw [r1, if_neg e] at h1
        rw [r2, if_neg e] at h2 ⊢
        rw [r5, r6, r7, if_neg e, if_neg e, if_neg e]
        exact B5 j hj h1 h2
    · rw [r5]
      by_cases e : j = k
      · rw [if_pos e]; exact B7 p hp
      · rw [if_neg e]; exact B8 j hj
theorem jr_ann (h : Jr_ K n c σ ρ) (hn : n ≤ 5) (hp : p < n) (hs : ρ 10 p = 0) : (hc_ann σ p).2 = (hm_ann ρ p).2 ∧ Jr_ K n c (hc_ann σ p).1 (hm_ann ρ p).1 := by
  have e1 : σ 1 = ρ 1 := h.2.1 1 (dm_of (by omega))
  have hfr := hm_free_eq h.2.1
  unfold hc_ann hm_ann
  cases hc : hc_free σ with
  | none =>
    rw [hc] at hfr
    rw [hfr, if_pos (by decide)]
    exact ⟨rfl, h⟩
  | some k =>
    rw [hc] at hfr
    unfold hc_free at hc
    obtain ⟨-, hk, hP, -⟩ := ff_some hc
    have hk32 : k < 32 := by omega
    have hu : ρ 1 k = 0 := by rw [← e1]; exact of_decide_eq_true hP
    rw [hfr, if_neg (nI_pos (by omega))]
    exact ⟨rfl, jr_annS h hn hp hs hk32 hu⟩
theorem jr_call (h : Jr_ K n c σ ρ) (hp : p < n) (hs : ρ 10 p = -1) {op a b : Int32} (ho : 0 ≤ op.toInt ∧ op.toInt ≤ 2) : Jr_ K n (c + 1) (hc_call σ p op a b) (hm_call ρ p op a b) := by
  have hA := h.2.1
  have z10 : tz_ ρ 10 p = -1 := by unfold tz_; rw [hs]; exact iz_m
  have rn : ∀ x, x ≠ 10 → x ≠ 15 → x ≠ 16 → x ≠ 17 → hm_call ρ p op a b x = ρ x := fun x x10 x15 x16 x17 => by
    unfold hm_call; rw [u2_ne _ _ _ x17, u2_ne _ _ _ x16, u2_ne _ _ _ x15, u2_ne _ _ _ x10]
  have sn : ∀ x, x ≠ 10 → x ≠ 15 → x ≠ 16 → x ≠ 17 → hc_call σ p op a b x = σ x := fun x x10 x15 x16 x17 => by
    unfold hc_call; rw [u2_ne _ _ _ x10, u2_ne _ _ _ x17, u2_ne _ _ _ x16, u2_ne _ _ _ x15]
  have tn : ∀ x, x ≠ 10 → x ≠ 15 → x ≠ 16 → x ≠ 17 → tz_ (hm_call ρ p op a b) x = tz_ ρ x := fun x x10 x15 x16 x17 => by
    funext j; unfold tz_; rw [rn x x10 x15 x16 x17]
  refine ⟨iv_call h.1 hp z10 (by rw [tn 0 (by omega) (by omega) (by omega) (by omega)]) (tn 1 (by omega) (by omega) (by omega) (by omega)) (tn 2 (by omega) (by omega) (by omega) (by omega)) (tn 3 (by omega) (by omega) (by omega) (by omega)) (tn 4 (by omega) (by omega) (by omega) (by omega)) (tn 8 (by omega) (by omega) (by omega) (by omega)) (tn 9 (by omega) (by omega) (by omega) (by omega)) (fun q => ?_) (tn 11 (by omega) (by omega) (by omega) (by omega)) (tn 12 (by omega) (by omega) (by omega) (by omega)) (tn 13 (by omega) (by omega) (by omega) (by omega)) (tn 14 (by omega) (by omega) (by omega) (by omega)), ?_, ?_⟩
  · show (hm_call ρ p op a b 10 q).toInt = _
    unfold hm_call
    rw [u2_ne _ _ _ (by omega), u2_ne _ _ _ (by omega), u2_ne _ _ _ (by omega), u2_at]
    by_cases e : q = p
    · rw [if_pos ⟨rfl, e⟩, if_pos e]; exact iz_0
    · rw [if_neg (fun z => e z.2), if_neg e]; rfl
  · intro x hx
    funext q
    unfold hc_call hm_call
    rw [u2_at, u2_at, u2_at, u2_at, u2_at, u2_at, u2_at, u2_at, hA x hx]
    by_cases e : q = p
    · by_cases c10 : x = 10
      · subst c10; simp [e]
      · simp only [c10, false_and, if_false]
    · simp only [e, and_false, if_false]
  · obtain ⟨B1, B2, B3, B4, B5, B6, B7, B8⟩ := h.2.2
    unfold Eb_
    rw [rn 0 (by omega) (by omega) (by omega) (by omega), rn 1 (by omega) (by omega) (by omega) (by omega), rn 2 (by omega) (by omega) (by omega) (by omega), rn 4 (by omega) (by omega) (by omega) (by omega), rn 5 (by omega) (by omega) (by omega) (by omega), rn 6 (by omega) (by omega) (by omega) (by omega), rn 7 (by omega) (by omega) (by omega) (by omega), rn 21 (by omega) (by omega) (by omega) (by omega), rn 22 (by omega) (by omega) (by omega) (by omega), rn 23 (by omega) (by omega) (by omega) (by omega), rn 25 (by omega) (by omega) (by omega) (by omega),
      sn 4 (by omega) (by omega) (by omega) (by omega), sn 5 (by omega) (by omega) (by omega) (by omega), sn 6 (by omega) (by omega) (by omega) (by omega), sn 7 (by omega) (by omega) (by omega) (by omega), sn 26 (by omega) (by omega) (by omega) (by omega), sn 30 (by omega) (by omega) (by omega) (by omega), sn 32 (by omega) (by omega) (by omega) (by omega), sn 33 (by omega) (by omega) (by omega) (by omega)]
    refine ⟨B1, B2, B3, B4, B5, B6, fun q hq => ?_, B8⟩
    have r15 : hm_call ρ p op a b 15 q = if q = p then op else ρ 15 q := by
      unfold hm_call
      rw [u2_ne _ _ _ (by omega), u2_ne _ _ _ (by omega), u2_at, u2_ne _ _ _ (by omega)]
      by_cases e : q = p
      · rw [if_pos ⟨rfl, e⟩, if_pos e]
      · rw [if_neg (fun z => e z.2), if_neg e]
    rw [r15]
    by_cases e : q = p
    · rw [if_pos e]; exact ho
    · rw [if_neg e]; exact B7 q hq
theorem jr_one (h : Jr_ K n c σ ρ) (hn : n ≤ 5) (hc : c < 100000) (hp : p < n) : (hc_one K n σ p).2 = (hm_one K n ρ p).2 ∧ Jr_ K n c (hc_one K n σ p).1 (hm_one K n ρ p).1 := by
  have e10 : σ 10 = ρ 10 := h.2.1 10 (dm_of (by omega))
  have hPp := h.1.1 p hp
  unfold Ip_ at hPp
  have hst := hPp.2.2.2.2.1
  have x10 : (ρ 10 p).toInt = tz_ ρ 10 p := rfl
  unfold hc_one hm_one
  rw [e10]
  by_cases cm : ρ 10 p = -1
  · rw [cm]
    simp only [show ¬ ((-1 : Int32) = 0) by decide, show ¬ ((-1 : Int32) = 1) by decide, show ¬ ((-1 : Int32) = 2) by decide, show ¬ ((-1 : Int32) = 3) by decide, show ¬ ((-1 : Int32) = 4) by decide, show ¬ ((-1 : Int32) = 5) by decide, show ¬ ((-1 : Int32) = 6) by decide, show ¬ ((-1 : Int32) = 7) by decide, if_false, if_true]
    exact ⟨trivial, h⟩
  · rw [if_neg cm]
    by_cases c0 : ρ 10 p = 0
    · rw [if_pos c0, if_pos c0]; exact jr_ann h hn hp c0
    · rw [if_neg c0, if_neg c0]
      by_cases c1 : ρ 10 p = 1
      · rw [if_pos c1, if_pos c1]; exact ⟨rfl, jr_look h hn hp c1⟩
      · rw [if_neg c1, if_neg c1]
        by_cases c2 : ρ 10 p = 2
        · rw [if_pos c2, if_pos c2]; exact ⟨rfl, jr_ask h hp c2⟩
        · rw [if_neg c2, if_neg c2]
          by_cases c3 : ρ 10 p = 3
          · rw [if_pos c3, if_pos c3]; exact ⟨rfl, jr_choose h hn hc hp c3⟩
          · rw [if_neg c3, if_neg c3]
            by_cases c4 : ρ 10 p = 4
            · rw [if_pos c4, if_pos c4]; exact ⟨rfl, jr_prop h hp c4⟩
            · rw [if_neg c4, if_neg c4]
              by_cases c5 : ρ 10 p = 5
              · rw [if_pos c5, if_pos c5]; exact ⟨rfl, jr_give h hc hp c5⟩
              · rw [if_neg c5, if_neg c5]
                by_cases c6 : ρ 10 p = 6
                · rw [if_pos c6, if_pos c6]; exact ⟨rfl, jr_move h hp c6⟩
                · rw [if_neg c6, if_neg c6]
                  have c7 : ρ 10 p = 7 := by
                    rw [iz_eq, iz_m, x10] at cm
                    rw [iz_eq, iz_0, x10] at c0
                    rw [iz_eq, iz_1, x10] at c1
                    rw [iz_eq, iz_2, x10] at c2
                    rw [iz_eq, iz_3, x10] at c3
                    rw [iz_eq, iz_4, x10] at c4
                    rw [iz_eq, iz_5, x10] at c5
                    rw [iz_eq, iz_6, x10] at c6
                    rw [iz_eq, iz_7, x10]
                    omega
                  rw [if_pos c7]
                  exact ⟨rfl, jr_fin h hp c7⟩
end STEP_E
end
section
section QUERY_A
variable {K n c p : Nat} {σ ρ : ST_}
theorem iz_bv (x : Int32) : ∃ m : Nat, m < 2 ^ 32 ∧ x = nI m := ⟨x.toBitVec.toNat, x.toBitVec.isLt, Int32.toBitVec_inj.mp (by show x.toBitVec = BitVec.ofNat 32 x.toBitVec.toNat; simp)⟩
theorem rq_lt {n : Nat} (h0 : 0 < n) (hn : n ≤ 5) (x : Int32) : ∃ j, j < n ∧ rq_ n x = j ∧ (x.toUInt32 >>> ((16 : Int32).toUInt32 &&& Int32.toUInt32 31)).toInt32 - (x.toUInt32 >>> ((16 : Int32).toUInt32 &&& Int32.toUInt32 31)).toInt32 / nI n * nI n = nI j := by
  obtain ⟨m, hm, e⟩ := iz_bv x
  have e1 : (x.toUInt32 >>> ((16 : Int32).toUInt32 &&& Int32.toUInt32 31)).toInt32 = nI (m / 2 ^ 16) := by
    rw [e]; exact pk_ushrN hm 16 16 (by decide +kernel)
  have hd : m / 2 ^ 16 < 2 ^ 16 := Nat.div_lt_of_lt_mul (by omega)
  have e2 := pk_rem (a := m / 2 ^ 16) (d := n) (by omega) h0 (by omega)
  have hmod := Nat.mod_lt (m / 2 ^ 16) h0
  refine ⟨m / 2 ^ 16 % n, hmod, ?_, ?_⟩
  · unfold rq_
    rw [e1, e2]
    exact nI_clamp (by omega)
  · rw [e1, e2]
theorem jr_run (hn : n ≤ 5) (h0 : 0 < n) (hc : c < 100000) : ∀ (k : Nat) (x r : Int32) {σ ρ : ST_}, Jr_ K n c σ ρ → (hc_run K n k x r σ).2 = (hm_run K n k x r ρ).2 ∧ Jr_ K n c (hc_run K n k x r σ).1 (hm_run K n k x r ρ).1 := by
  intro k
  induction k with
  | zero => intro x r σ ρ h; exact ⟨rfl, h⟩
  | succ k ih =>
    intro x r σ ρ h
    obtain ⟨j, hj, e, -⟩ := rq_lt h0 hn (rx_ x)
    unfold hc_run hm_run
    rw [e]
    obtain ⟨h1, h2⟩ := jr_one h hn hc hj
    rw [h1]
    exact ih _ _ h2
theorem on_eq (h : Ea_ σ ρ) (k : Nat) : on_ σ k = on_ ρ k := by
  unfold on_
  rw [h 1 (dm_of (by omega)), h 2 (dm_of (by omega))]
theorem on_iff {ρ : ST_} {k : Nat} : on_ ρ k = true ↔ ¬ ρ 1 k = 0 ∧ 0 < ρ 2 k := by
  unfold on_
  simp
/-- on the log, in the numbers' words -/
theorem on_tz (h : Iv_ n c (tz_ ρ)) {k : Nat} (hk : k < 32) : on_ ρ k = true ↔ tz_ ρ 1 k = 1 ∧ 1 ≤ tz_ ρ 2 k := by
  have hn := h.2.1 k hk
  unfold In_ at hn
  have x1 : (ρ 1 k).toInt = tz_ ρ 1 k := rfl
  have x2 : (ρ 2 k).toInt = tz_ ρ 2 k := rfl
  rw [on_iff, iz_lt, iz_eq, iz_0, x1, x2]
  omega
theorem jr_end (h : Jr_ K n c σ ρ) : hc_endF σ 32 = ρ 0 1 := by
  have e2 : σ 2 = ρ 2 := h.2.1 2 (dm_of (by omega))
  have hE := h.1.2.2.2.1
  have key : ∀ k, k ≤ 32 → 1 ≤ (hc_endF σ k).toInt ∧ (hc_endF σ k).toInt ≤ tz_ ρ 0 1 ∧ ∀ j, j < k → on_ ρ j = true → tz_ ρ 2 j ≤ (hc_endF σ k).toInt := by
    intro k
    induction k with
    | zero =>
      intro _
      have : (hc_endF σ 0).toInt = 1 := iz_1
      exact ⟨by omega, by omega, fun j hj => by omega⟩
    | succ k ih =>
      intro hk
      obtain ⟨i1, i2, i3⟩ := ih (by omega)
      have hs : hc_endF σ (k + 1) = cond (on_ σ k) (if hc_endF σ k ≤ σ 2 k then σ 2 k else hc_endF σ k) (hc_endF σ k) := rfl
      rw [hs, on_eq h.2.1, e2]
      cases ho : on_ ρ k with
      | false =>
        refine ⟨i1, i2, fun j hj hon => ?_⟩
        by_cases e : j = k
        · rw [e, ho] at hon; cases hon
        · exact i3 j (by omega) hon
      | true =>
        have hb := (on_tz h.1 (show k < 32 by omega)).mp ho
        have hu := (h.1.2.1 k (by omega)).2.2 hb.1
        have hu1 := hu.1
        have hu2 := hu.2.1
        have x2 : (ρ 2 k).toInt = tz_ ρ 2 k := rfl
        show 1 ≤ (if hc_endF σ k ≤ ρ 2 k then ρ 2 k else hc_endF σ k).toInt ∧ _ ∧ ∀ j, j < k + 1 → on_ ρ j = true → tz_ ρ 2 j ≤ (if hc_endF σ k ≤ ρ 2 k then ρ 2 k else hc_endF σ k).toInt
        by_cases g : hc_endF σ k ≤ ρ 2 k
        · rw [if_pos g]
          rw [iz_le, x2] at g
          refine ⟨by omega, by show (ρ 2 k).toInt ≤ _; rw [x2]; exact hu.2.1, fun j hj hon => ?_⟩
          by_cases e : j = k
          · rw [e, x2]; exact Int.le_refl _
          · have := i3 j (by omega) hon; omega
        · rw [if_neg g]
          have g2 := g
          rw [iz_le, x2] at g2
          refine ⟨i1, by show (hc_endF σ k).toInt ≤ _; exact i2, fun j hj hon => ?_⟩
          by_cases e : j = k
          · rw [e]; omega
          · exact i3 j (by omega) hon
  obtain ⟨k, k1, k2, k3⟩ := h.1.2.2.2.2.1
  obtain ⟨j1, j2, j3⟩ := key 32 (by omega)
  have h3 := j3 k k1 ((on_tz h.1 k1).mpr ⟨k2, by omega⟩)
  rw [iz_eq]
  show _ = tz_ ρ 0 1
  omega
theorem jr_old (h : Jr_ K n c σ ρ) : hc_oldF σ 32 = hm_oldF ρ 32 := by
  have e2 : σ 2 = ρ 2 := h.2.1 2 (dm_of (by omega))
  have hE := h.1.2.2.2.1
  have hend := jr_end h
  have xe : (ρ 0 1).toInt = tz_ ρ 0 1 := rfl
  have key : ∀ k, k ≤ 32 → 0 ≤ (hm_oldF ρ k).toInt ∧ (hm_oldF ρ k).toInt ≤ tz_ ρ 0 1 ∧ hc_oldF σ k = (if hm_oldF ρ k = 0 then ρ 0 1 else hm_oldF ρ k) ∧ ((∃ j, j < k ∧ on_ ρ j = true) → ¬ hm_oldF ρ k = 0) := by
    intro k
    induction k with
    | zero =>
      intro _
      have q : hm_oldF ρ 0 = 0 := rfl
      rw [q, iz_0, if_pos rfl]
      exact ⟨by omega, by omega, hend, fun ⟨j, hj, _⟩ => by omega⟩
    | succ k ih =>
      intro hk
      obtain ⟨i1, i2, i3, i4⟩ := ih (by omega)
      have hs : hc_oldF σ (k + 1) = cond (on_ σ k) (if hc_oldF σ k ≤ σ 2 k then hc_oldF σ k else σ 2 k) (hc_oldF σ k) := rfl
      have hs2 : hm_oldF ρ (k + 1) = cond (on_ ρ k && (decide (hm_oldF ρ k = 0) || decide (ρ 2 k < hm_oldF ρ k))) (ρ 2 k) (hm_oldF ρ k) := rfl
      rw [hs, hs2, on_eq h.2.1, e2]
      cases ho : on_ ρ k with
      | false =>
        refine ⟨i1, i2, i3, fun ⟨j, hj, hon⟩ => i4 ⟨j, ?_, hon⟩⟩
        by_cases e : j = k
        · rw [e, ho] at hon; cases hon
        · omega
      | true =>
        have hb := (on_tz h.1 (show k < 32 by omega)).mp ho
        have hu := (h.1.2.1 k (by omega)).2.2 hb.1
        have hu1 := hu.1
        have hu2 := hu.2.1
        have x2 : (ρ 2 k).toInt = tz_ ρ 2 k := rfl
        have hk0 : ¬ ρ 2 k = 0 := by rw [iz_eq, iz_0, x2]; omega
        rw [Bool.true_and]
        by_cases g0 : hm_oldF ρ k = 0
        · rw [g0] at i3
          rw [if_pos rfl] at i3
          rw [i3]
          have q1 : (decide (hm_oldF ρ k = 0) || decide (ρ 2 k < hm_oldF ρ k)) = true := by rw [decide_eq_true g0]; rfl
          rw [q1]
          show 0 ≤ (ρ 2 k).toInt ∧ (ρ 2 k).toInt ≤ _ ∧ (if ρ 0 1 ≤ ρ 2 k then ρ 0 1 else ρ 2 k) = (if ρ 2 k = 0 then ρ 0 1 else ρ 2 k) ∧ (_ → ¬ ρ 2 k = 0)
          rw [if_neg hk0]
          refine ⟨by rw [x2]; omega, by rw [x2]; exact hu.2.1, ?_, fun _ => hk0⟩
          by_cases g : ρ 0 1 ≤ ρ 2 k
          · rw [if_pos g]
            rw [iz_le, xe, x2] at g
            rw [iz_eq, xe, x2]
            have := hu.2.1
            omega
          · rw [if_neg g]
        · rw [if_neg g0] at i3
          rw [i3]
          by_cases g : ρ 2 k < hm_oldF ρ k
          · have q1 : (decide (hm_oldF ρ k = 0) || decide (ρ 2 k < hm_oldF ρ k)) = true := by rw [decide_eq_true g, Bool.or_true]
            rw [q1]
            show 0 ≤ (ρ 2 k).toInt ∧ (ρ 2 k).toInt ≤ _ ∧ (if hm_oldF ρ k ≤ ρ 2 k then hm_oldF ρ k else ρ 2 k) = (if ρ 2 k = 0 then ρ 0 1 else ρ 2 k) ∧ (_ → ¬ ρ 2 k = 0)
            rw [if_neg hk0, if_neg (by rw [iz_le]; rw [iz_lt] at g; omega)]
            exact ⟨by rw [x2]; omega, by rw [x2]; exact hu.2.1, rfl, fun _ => hk0⟩
          · have q1 : (decide (hm_oldF ρ k = 0) || decide (ρ 2 k < hm_oldF ρ k)) = false := by rw [decide_eq_false g0, decide_eq_false g]; rfl
            rw [q1]
            show 0 ≤ (hm_oldF ρ k).toInt ∧ (hm_oldF ρ k).toInt ≤ _ ∧ (if hm_oldF ρ k ≤ ρ 2 k then hm_oldF ρ k else ρ 2 k) = (if hm_oldF ρ k = 0 then ρ 0 1 else hm_oldF ρ k) ∧ (_ → ¬ hm_oldF ρ k = 0)
            rw [if_neg g0, if_pos (by rw [iz_le]; rw [iz_lt] at g; omega)]
            exact ⟨i1, i2, rfl, fun _ => g0⟩
  obtain ⟨k, k1, k2, k3⟩ := h.1.2.2.2.2.1
  obtain ⟨-, -, j3, j4⟩ := key 32 (by omega)
  rw [j3, if_neg (j4 ⟨k, k1, (on_tz h.1 k1).mpr ⟨k2, by omega⟩⟩)]
/-- the node of a number -/
theorem jr_find (h : Jr_ K n c σ ρ) (x : Int32) : (hc_find σ x = none ∧ hm_findF ρ x 32 = -1) ∨ ∃ k, k < 32 ∧ hc_find σ x = some k ∧ hm_findF ρ x 32 = nI k ∧ ρ 1 k = 1 ∧ ρ 2 k = x ∧ 1 ≤ x.toInt := by
  have e1 : σ 1 = ρ 1 := h.2.1 1 (dm_of (by omega))
  have e2 : σ 2 = ρ 2 := h.2.1 2 (dm_of (by omega))
  obtain ⟨P, hP⟩ : ∃ P : Nat → Bool, P = fun k => on_ σ k && decide (σ 2 k = x) := ⟨_, rfl⟩
  have hPe : ∀ k, (decide (¬ ρ 1 k = 0) && decide (0 < x) && decide (ρ 2 k = x)) = P k := fun k => by
    rw [hP]
    show _ = (on_ σ k && decide (σ 2 k = x))
    unfold on_
    rw [e1, e2]
    by_cases g : ρ 2 k = x
    · rw [g]
    · rw [decide_eq_false g, Bool.and_false, Bool.and_false]
  have hPt : ∀ k, k < 32 → P k = true → ρ 1 k = 1 ∧ ρ 2 k = x ∧ 1 ≤ x.toInt := fun k hk hp => by
    rw [hP] at hp
    have hp2 : (on_ σ k && decide (σ 2 k = x)) = true := hp
    rw [Bool.and_eq_true, on_eq h.2.1, e2] at hp2
    have h2 := (on_tz h.1 hk).mp hp2.1
    have h3 : ρ 2 k = x := of_decide_eq_true hp2.2
    refine ⟨by rw [iz_eq, iz_1]; exact h2.1, h3, ?_⟩
    rw [← h3]
    exact h2.2
  have huniq : ∀ j k, j < 32 → k < 32 → P j = true → P k = true → j = k := fun j k hj hk pj pk => by
    obtain ⟨u1, u2, u3⟩ := hPt j hj pj
    obtain ⟨w1, w2, w3⟩ := hPt k hk pk
    refine h.1.2.2.1 j k hj hk ?_ ?_ ?_ ?_
    · show (ρ 1 j).toInt = 1; rw [u1]; exact iz_1
    · show (ρ 1 k).toInt = 1; rw [w1]; exact iz_1
    · show (ρ 2 j).toInt = (ρ 2 k).toInt; rw [u2, w2]
    · show 1 ≤ (ρ 2 j).toInt; rw [u2]; exact u3
  have hm : ∀ k, k ≤ 32 → ((∀ j, j < k → P j = false) → hm_findF ρ x k = -1) ∧ (∀ j, j < k → P j = true → hm_findF ρ x k = nI j) := by
    intro k
    induction k with
    | zero => intro _; exact ⟨fun _ => rfl, fun j hj => by omega⟩
    | succ k ih =>
      intro hk
      obtain ⟨i1, i2⟩ := ih (by omega)
      have hs : hm_findF ρ x (k + 1) = cond (P k) (nI k) (hm_findF ρ x k) := by rw [← hPe]; rfl
      rw [hs]
      refine ⟨fun hall => ?_, fun j hj hpj => ?_⟩
      · rw [hall k (by omega)]
        exact i1 (fun j hj => hall j (by omega))
      · by_cases e : j = k
        · rw [← e, hpj]; rfl
        · cases hpk : P k with
          | true => exact absurd (huniq j k (by omega) (by omega) hpj hpk) e
          | false => exact i2 j (by omega) hpj
  obtain ⟨m1, m2⟩ := hm 32 (Nat.le_refl _)
  unfold hc_find
  rw [← hP]
  cases hf : ff_ P 0 32 with
  | none =>
    left
    exact ⟨rfl, m1 (fun j hj => ff_none hf j (by omega) (by omega))⟩
  | some k =>
    right
    obtain ⟨-, hk, hp, -⟩ := ff_some hf
    have hk32 : k < 32 := by omega
    obtain ⟨u1, u2, u3⟩ := hPt k hk32 hp
    exact ⟨k, hk32, rfl, m2 k hk32 hp, u1, u2, u3⟩
end QUERY_A
end
section
section CUT_A
/-- how many of the first k have P, as a number -/
def cn_ (P : Nat → Bool) : Nat → Nat
  | 0 => 0
  | k + 1 => cond (P k) (cn_ P k + 1) (cn_ P k)
theorem ct_cn (P : Nat → Bool) : ∀ k, ct_ P k = nI (cn_ P k) := by
  intro k
  induction k with
  | zero => rfl
  | succ k ih =>
    have h1 : ct_ P (k + 1) = cond (P k) (ct_ P k + 1) (ct_ P k) := rfl
    have h2 : cn_ P (k + 1) = cond (P k) (cn_ P k + 1) (cn_ P k) := rfl
    rw [h1, h2, ih]
    cases P k with
    | true => exact nI_1 _
    | false => rfl
theorem cn_le (P : Nat → Bool) : ∀ k, cn_ P k ≤ k := by
  intro k
  induction k with
  | zero => exact Nat.le_refl _
  | succ k ih =>
    have h2 : cn_ P (k + 1) = cond (P k) (cn_ P k + 1) (cn_ P k) := rfl
    rw [h2]
    cases P k with
    | true => show cn_ P k + 1 ≤ k + 1; omega
    | false => show cn_ P k ≤ k + 1; omega
theorem cn_add {P P' Q : Nat → Bool} : ∀ k, (∀ j, j < k → (P j = (P' j || Q j)) ∧ (P' j && Q j) = false) → cn_ P k = cn_ P' k + cn_ Q k := by
  intro k
  induction k with
  | zero => intro _; rfl
  | succ k ih =>
    intro h
    have h1 : cn_ P (k + 1) = cond (P k) (cn_ P k + 1) (cn_ P k) := rfl
    have h2 : cn_ P' (k + 1) = cond (P' k) (cn_ P' k + 1) (cn_ P' k) := rfl
    have h3 : cn_ Q (k + 1) = cond (Q k) (cn_ Q k + 1) (cn_ Q k) := rfl
    obtain ⟨g1, g2⟩ := h k (by omega)
    rw [h1, h2, h3, g1, ih (fun j hj => h j (by omega))]
    cases hp : P' k <;> cases hq : Q k
    · rfl
    · show cn_ P' k + cn_ Q k + 1 = cn_ P' k + (cn_ Q k + 1); omega
    · show cn_ P' k + cn_ Q k + 1 = cn_ P' k + 1 + cn_ Q k; omega
    · rw [hp, hq] at g2; cases g2
theorem cn_congr {P P' : Nat → Bool} : ∀ k, (∀ j, j < k → P j = P' j) → cn_ P k = cn_ P' k := by
  intro k
  induction k with
  | zero => intro _; rfl
  | succ k ih =>
    intro h
    have h1 : cn_ P (k + 1) = cond (P k) (cn_ P k + 1) (cn_ P k) := rfl
    have h2 : cn_ P' (k + 1) = cond (P' k) (cn_ P' k + 1) (cn_ P' k) := rfl
    rw [h1, h2, ih (fun j hj => h j (by omega)), h k (by omega)]
/-- what a cut releases, of the first k -/
def rl_ (σ : ST_) (x : Int32) (k j : Nat) : Int32 := if j < k ∧ on_ σ j = true ∧ σ 2 j < x then 0 else σ 1 j
theorem u1_id (σ : ST_) (c : Nat) : u1_ σ c (σ c) = σ := by
  funext a
  by_cases h : a = c
  · rw [h, u1_same]
  · rw [u1_ne _ _ h]
theorem u12_id (σ : ST_) (c i : Nat) (f : Nat → Int32) (v : Int32) : u2_ (u1_ σ c f) c i v = u1_ σ c (upd f i v) := by
  funext a
  by_cases h : a = c
  · rw [h, u2_same, u1_same, u1_same]
  · rw [u2_ne _ _ _ h, u1_ne _ _ h, u1_ne _ _ h]
theorem rl_zero (σ : ST_) (x : Int32) : u1_ σ 1 (rl_ σ x 0) = σ := by
  have : rl_ σ x 0 = σ 1 := by
    funext j
    unfold rl_
    rw [if_neg (by omega)]
  rw [this, u1_id]
theorem rl_on (σ : ST_) (x : Int32) (k : Nat) : on_ (u1_ σ 1 (rl_ σ x k)) k = on_ σ k ∧ (u1_ σ 1 (rl_ σ x k)) 2 k = σ 2 k := by
  have h1 : (u1_ σ 1 (rl_ σ x k)) 1 k = σ 1 k := by
    rw [u1_same]
    unfold rl_
    rw [if_neg (by omega)]
  have h2 : (u1_ σ 1 (rl_ σ x k)) 2 = σ 2 := u1_ne _ _ (by omega)
  refine ⟨?_, by rw [h2]⟩
  unfold on_
  rw [h1, h2]
theorem rl_succ_t {σ : ST_} {x : Int32} {k : Nat} (h : on_ σ k = true ∧ σ 2 k < x) : u2_ (u1_ σ 1 (rl_ σ x k)) 1 k 0 = u1_ σ 1 (rl_ σ x (k + 1)) := by
  rw [u12_id]
  congr 1
  funext j
  unfold rl_ upd
  by_cases e : j = k
  · rw [if_pos e, if_pos ⟨by omega, by rw [e]; exact h⟩]
  · rw [if_neg e]
    dsimp only
    by_cases g : j < k ∧ on_ σ j = true ∧ σ 2 j < x
    · rw [if_pos g, if_pos ⟨by omega, g.2⟩]
    · rw [if_neg g, if_neg (fun z => g ⟨by omega, z.2⟩)]
theorem rl_succ_f {σ : ST_} {x : Int32} {k : Nat} (h : ¬ (on_ σ k = true ∧ σ 2 k < x)) : u1_ σ 1 (rl_ σ x k) = u1_ σ 1 (rl_ σ x (k + 1)) := by
  congr 1
  funext j
  unfold rl_
  by_cases g : j < k ∧ on_ σ j = true ∧ σ 2 j < x
  · rw [if_pos g, if_pos ⟨by omega, g.2⟩]
  · rw [if_neg g, if_neg (fun z => g ⟨by
      by_cases e : j = k
      · exact absurd (by rw [← e]; exact z.2) h
      · omega, z.2⟩)]
theorem hc_rel (σ : ST_) (x : Int32) : ∀ k, hc_relF x k σ = (u1_ σ 1 (rl_ σ x k), ct_ (fun j => on_ σ j && decide (σ 2 j < x)) k) := by
  intro k
  induction k with
  | zero => rw [rl_zero]; rfl
  | succ k ih =>
    have h1 : hc_relF x (k + 1) σ = if on_ (hc_relF x k σ).1 k = true ∧ (hc_relF x k σ).1 2 k < x then (u2_ (hc_relF x k σ).1 1 k 0, (hc_relF x k σ).2 + 1) else hc_relF x k σ := rfl
    have h2 : ct_ (fun j => on_ σ j && decide (σ 2 j < x)) (k + 1) = cond (on_ σ k && decide (σ 2 k < x)) (ct_ (fun j => on_ σ j && decide (σ 2 j < x)) k + 1) (ct_ (fun j => on_ σ j && decide (σ 2 j < x)) k) := rfl
    obtain ⟨r1, r2⟩ := rl_on σ x k
    rw [h1, h2, ih]
    simp only [r1, r2]
    by_cases g : on_ σ k = true ∧ σ 2 k < x
    · rw [if_pos g, rl_succ_t g, g.1, decide_eq_true g.2]; rfl
    · rw [if_neg g, rl_succ_f g]
      have : (on_ σ k && decide (σ 2 k < x)) = false := by
        cases ho : on_ σ k with
        | false => rfl
        | true => rw [decide_eq_false (fun z => g ⟨ho, z⟩)]; rfl
      rw [this]; rfl
theorem hm_rel (ρ : ST_) (x : Int32) : ∀ k, hm_relF x k ρ = u1_ ρ 1 (rl_ ρ x k) := by
  intro k
  induction k with
  | zero => rw [rl_zero]; rfl
  | succ k ih =>
    have h1 : hm_relF x (k + 1) ρ = if on_ (hm_relF x k ρ) k = true ∧ hm_relF x k ρ 2 k < x then u2_ (hm_relF x k ρ) 1 k 0 else hm_relF x k ρ := rfl
    obtain ⟨r1, r2⟩ := rl_on ρ x k
    rw [h1, ih]
    simp only [r1, r2]
    by_cases g : on_ ρ k = true ∧ ρ 2 k < x
    · rw [if_pos g, rl_succ_t g]
    · rw [if_neg g, rl_succ_f g]
/-- idle heads of the first p at h -/
def br_ (σ : ST_) (h : Int32) (p q : Nat) : Int32 := if q < p ∧ σ 10 q = -1 then h else σ 8 q
theorem br_zero (σ : ST_) (h : Int32) : u1_ σ 8 (br_ σ h 0) = σ := by
  have : br_ σ h 0 = σ 8 := by
    funext j
    unfold br_
    rw [if_neg (by omega)]
  rw [this, u1_id]
theorem br_succ (σ : ST_) (h : Int32) (p : Nat) : upd (br_ σ h p) p (if σ 10 p = -1 then h else σ 8 p) = br_ σ h (p + 1) := by
  funext q
  unfold br_ upd
  by_cases e : q = p
  · rw [if_pos e, e]
    by_cases g : σ 10 p = -1
    · rw [if_pos g, if_pos ⟨by omega, g⟩]
    · rw [if_neg g, if_neg (fun z => g z.2)]
  · rw [if_neg e]
    dsimp only
    by_cases g : q < p ∧ σ 10 q = -1
    · rw [if_pos g, if_pos ⟨by omega, g.2⟩]
    · rw [if_neg g, if_neg (fun z => g ⟨by omega, z.2⟩)]
theorem hc_br (σ : ST_) (h : Int32) : ∀ p, hc_bring h p σ = u1_ σ 8 (br_ σ h p) := by
  intro p
  induction p with
  | zero => rw [br_zero]; rfl
  | succ p ih =>
    have h1 : hc_bring h (p + 1) σ = if hc_bring h p σ 10 p = -1 then u2_ (hc_bring h p σ) 8 p h else hc_bring h p σ := rfl
    have h10 : (u1_ σ 8 (br_ σ h p)) 10 = σ 10 := u1_ne _ _ (by omega)
    rw [h1, ih, h10, ← br_succ]
    by_cases g : σ 10 p = -1
    · rw [if_pos g, if_pos g, u12_id]
    · rw [if_neg g, if_neg g]
      congr 1
      have : br_ σ h p p = σ 8 p := by unfold br_; rw [if_neg (by omega)]
      rw [← this, upd_id]
/-- the least of l0 and the heads' numbers, of the first p -/
def ml_ (ρ : ST_) (h l0 : Int32) : Nat → Int32
  | 0 => l0
  | p + 1 => if ρ 2 (ix_ (if ρ 10 p = -1 then h else ρ 8 p)) < ml_ ρ h l0 p then ρ 2 (ix_ (if ρ 10 p = -1 then h else ρ 8 p)) else ml_ ρ h l0 p
theorem hm_br (ρ : ST_) (h l0 : Int32) : ∀ p, hm_bring h p (ρ, l0) = (u1_ ρ 8 (br_ ρ h p), ml_ ρ h l0 p) := by
  intro p
  induction p with
  | zero => rw [br_zero]; rfl
  | succ p ih =>
    have h1 : hm_bring h (p + 1) (ρ, l0) = (u2_ (hm_bring h p (ρ, l0)).1 8 p (if (hm_bring h p (ρ, l0)).1 10 p = -1 then h else (hm_bring h p (ρ, l0)).1 8 p),
     if (hm_bring h p (ρ, l0)).1 2 (ix_ (if (hm_bring h p (ρ, l0)).1 10 p = -1 then h else (hm_bring h p (ρ, l0)).1 8 p)) < (hm_bring h p (ρ, l0)).2
     then (hm_bring h p (ρ, l0)).1 2 (ix_ (if (hm_bring h p (ρ, l0)).1 10 p = -1 then h else (hm_bring h p (ρ, l0)).1 8 p)) else (hm_bring h p (ρ, l0)).2) := rfl
    have h10 : (u1_ ρ 8 (br_ ρ h p)) 10 = ρ 10 := u1_ne _ _ (by omega)
    have h2 : (u1_ ρ 8 (br_ ρ h p)) 2 = ρ 2 := u1_ne _ _ (by omega)
    have h8 : (u1_ ρ 8 (br_ ρ h p)) 8 p = ρ 8 p := by
      rw [u1_same]; unfold br_; rw [if_neg (by omega)]
    rw [h1, ih]
    simp only [h10, h2, h8, u12_id, br_succ]
    rfl
/-- the reference's cut -/
def hm_cut (n : Nat) (ρ : ST_) : ST_ × Int32 :=
  (hm_relF (hm_bring (ρ 8 (ix_ (hm_farF ρ (n - 1)))) n (ρ, ρ 2 (ix_ (ρ 8 (ix_ (hm_farF ρ (n - 1))))))).2 32 (hm_bring (ρ 8 (ix_ (hm_farF ρ (n - 1)))) n (ρ, ρ 2 (ix_ (ρ 8 (ix_ (hm_farF ρ (n - 1))))))).1,
   hm_used (hm_bring (ρ 8 (ix_ (hm_farF ρ (n - 1)))) n (ρ, ρ 2 (ix_ (ρ 8 (ix_ (hm_farF ρ (n - 1))))))).1 - hm_used (hm_relF (hm_bring (ρ 8 (ix_ (hm_farF ρ (n - 1)))) n (ρ, ρ 2 (ix_ (ρ 8 (ix_ (hm_farF ρ (n - 1))))))).2 32 (hm_bring (ρ 8 (ix_ (hm_farF ρ (n - 1)))) n (ρ, ρ 2 (ix_ (ρ 8 (ix_ (hm_farF ρ (n - 1))))))).1))
end CUT_A
section CUT_B
variable {K n c p : Nat} {σ ρ : ST_}
theorem far_ok (h : Ea_ σ ρ) : ∀ p, p < 1000 → hc_farF σ (p + 1) = ρ 8 (ix_ (hm_farF ρ p)) ∧ ix_ (hm_farF ρ p) ≤ p ∧ ∀ q, q ≤ p → (ρ 2 (ix_ (ρ 8 q))).toInt ≤ (ρ 2 (ix_ (ρ 8 (ix_ (hm_farF ρ p))))).toInt := by
  have e2 : σ 2 = ρ 2 := h 2 (dm_of (by omega))
  have e8 : σ 8 = ρ 8 := h 8 (dm_of (by omega))
  intro p
  induction p with
  | zero =>
    intro _
    have h1 : hc_farF σ 1 = if σ 2 (ix_ (hc_farF σ 0)) < σ 2 (ix_ (σ 8 0)) then σ 8 0 else hc_farF σ 0 := rfl
    have h2 : hc_farF σ 0 = σ 8 0 := rfl
    have h3 : ix_ (hm_farF ρ 0) = 0 := by show ix_ (0 : Int32) = 0; decide
    rw [h1, h2, h3]
    refine ⟨by rw [e8]; split <;> rfl, Nat.le_refl _, fun q hq => ?_⟩
    rw [show q = 0 by omega]
    exact Int.le_refl _
  | succ p ih =>
    intro hp
    obtain ⟨i1, i2, i3⟩ := ih (by omega)
    have h1 : hc_farF σ (p + 1 + 1) = if σ 2 (ix_ (hc_farF σ (p + 1))) < σ 2 (ix_ (σ 8 (p + 1))) then σ 8 (p + 1) else hc_farF σ (p + 1) := rfl
    have h2 : hm_farF ρ (p + 1) = if ρ 2 (ix_ (ρ 8 (ix_ (hm_farF ρ p)))) < ρ 2 (ix_ (ρ 8 (p + 1))) then nI (p + 1) else hm_farF ρ p := rfl
    rw [h1, h2, i1, e2, e8]
    by_cases g : ρ 2 (ix_ (ρ 8 (ix_ (hm_farF ρ p)))) < ρ 2 (ix_ (ρ 8 (p + 1)))
    · rw [if_pos g, if_pos g, show ix_ (nI (p + 1)) = p + 1 from nI_clamp (by omega)]
      refine ⟨rfl, Nat.le_refl _, fun q hq => ?_⟩
      rw [iz_lt] at g
      by_cases e : q = p + 1
      · rw [e]; exact Int.le_refl _
      · have := i3 q (by omega); omega
    · rw [if_neg g, if_neg g]
      refine ⟨rfl, by omega, fun q hq => ?_⟩
      rw [iz_lt] at g
      by_cases e : q = p + 1
      · rw [e]; omega
      · exact i3 q (by omega)
/-- the heads' numbers behind bringing, and the least of them -/
theorem least_ok (h : Ea_ σ ρ) {hI : Int32} (h0 : 0 < n) (hmax : ∀ q, q < n → (ρ 2 (ix_ (ρ 8 q))).toInt ≤ (ρ 2 (ix_ hI)).toInt) :
    hc_leastF (u1_ σ 8 (br_ σ hI n)) n = ml_ ρ hI (ρ 2 (ix_ hI)) n ∧ ∀ q, q < n → (ml_ ρ hI (ρ 2 (ix_ hI)) n).toInt ≤ (ρ 2 (ix_ (br_ ρ hI n q))).toInt := by
  have e2 : σ 2 = ρ 2 := h 2 (dm_of (by omega))
  have e8 : σ 8 = ρ 8 := h 8 (dm_of (by omega))
  have e10 : σ 10 = ρ 10 := h 10 (dm_of (by omega))
  have eb : br_ σ hI n = br_ ρ hI n := by
    funext q; unfold br_; rw [e8, e10]
  have s2 : (u1_ σ 8 (br_ σ hI n)) 2 = ρ 2 := by rw [u1_ne _ _ (by omega), e2]
  have s8 : (u1_ σ 8 (br_ σ hI n)) 8 = br_ ρ hI n := by rw [u1_same, eb]
  have hb : ∀ q, q < n → br_ ρ hI n q = if ρ 10 q = -1 then hI else ρ 8 q := fun q hq => by
    unfold br_
    by_cases g : ρ 10 q = -1
    · rw [if_pos ⟨hq, g⟩, if_pos g]
    · rw [if_neg (fun z => g z.2), if_neg g]
  have hle : ∀ q, q < n → (ρ 2 (ix_ (br_ ρ hI n q))).toInt ≤ (ρ 2 (ix_ hI)).toInt := fun q hq => by
    rw [hb q hq]
    by_cases g : ρ 10 q = -1
    · rw [if_pos g]; exact Int.le_refl _
    · rw [if_neg g]; exact hmax q hq
  have key : ∀ p, p < n → hc_leastF (u1_ σ 8 (br_ σ hI n)) (p + 1) = ml_ ρ hI (ρ 2 (ix_ hI)) (p + 1) ∧ ∀ q, q ≤ p → (ml_ ρ hI (ρ 2 (ix_ hI)) (p + 1)).toInt ≤ (ρ 2 (ix_ (br_ ρ hI n q))).toInt := by
    intro p
    induction p with
    | zero =>
      intro _
      have h1 : hc_leastF (u1_ σ 8 (br_ σ hI n)) 1 = if hc_leastF (u1_ σ 8 (br_ σ hI n)) 0 ≤ (u1_ σ 8 (br_ σ hI n)) 2 (ix_ ((u1_ σ 8 (br_ σ hI n)) 8 0)) then hc_leastF (u1_ σ 8 (br_ σ hI n)) 0 else (u1_ σ 8 (br_ σ hI n)) 2 (ix_ ((u1_ σ 8 (br_ σ hI n)) 8 0)) := rfl
      have h2 : hc_leastF (u1_ σ 8 (br_ σ hI n)) 0 = (u1_ σ 8 (br_ σ hI n)) 2 (ix_ ((u1_ σ 8 (br_ σ hI n)) 8 0)) := rfl
      have h3 : ml_ ρ hI (ρ 2 (ix_ hI)) 1 = if ρ 2 (ix_ (if ρ 10 0 = -1 then hI else ρ 8 0)) < ρ 2 (ix_ hI) then ρ 2 (ix_ (if ρ 10 0 = -1 then hI else ρ 8 0)) else ρ 2 (ix_ hI) := rfl
      have h4 := hle 0 h0
      rw [h1, h2, s2, s8, h3, ← hb 0 h0]
      have h5 : (if ρ 2 (ix_ (br_ ρ hI n 0)) < ρ 2 (ix_ hI) then ρ 2 (ix_ (br_ ρ hI n 0)) else ρ 2 (ix_ hI)) = ρ 2 (ix_ (br_ ρ hI n 0)) := by
        by_cases g : ρ 2 (ix_ (br_ ρ hI n 0)) < ρ 2 (ix_ hI)
        · rw [if_pos g]
        · rw [if_neg g, iz_eq]
          rw [iz_lt] at g
          omega
      rw [h5]
      refine ⟨by split <;> rfl, fun q hq => ?_⟩
      rw [show q = 0 by omega]
      exact Int.le_refl _
    | succ p ih =>
      intro hp
      obtain ⟨i1, i2⟩ := ih (by omega)
      have h1 : hc_leastF (u1_ σ 8 (br_ σ hI n)) (p + 1 + 1) = if hc_leastF (u1_ σ 8 (br_ σ hI n)) (p + 1) ≤ (u1_ σ 8 (br_ σ hI n)) 2 (ix_ ((u1_ σ 8 (br_ σ hI n)) 8 (p + 1))) then hc_leastF (u1_ σ 8 (br_ σ hI n)) (p + 1) else (u1_ σ 8 (br_ σ hI n)) 2 (ix_ ((u1_ σ 8 (br_ σ hI n)) 8 (p + 1))) := rfl
      have h3 : ml_ ρ hI (ρ 2 (ix_ hI)) (p + 1 + 1) = if ρ 2 (ix_ (if ρ 10 (p + 1) = -1 then hI else ρ 8 (p + 1))) < ml_ ρ hI (ρ 2 (ix_ hI)) (p + 1) then ρ 2 (ix_ (if ρ 10 (p + 1) = -1 then hI else ρ 8 (p + 1))) else ml_ ρ hI (ρ 2 (ix_ hI)) (p + 1) := rfl
      rw [h1, h3, i1, s2, s8, ← hb (p + 1) hp]
      by_cases g : ρ 2 (ix_ (br_ ρ hI n (p + 1))) < ml_ ρ hI (ρ 2 (ix_ hI)) (p + 1)
      · rw [if_pos g, if_neg (by rw [iz_le]; rw [iz_lt] at g; omega)]
        rw [iz_lt] at g
        refine ⟨rfl, fun q hq => ?_⟩
        by_cases e : q = p + 1
        · rw [e]; exact Int.le_refl _
        · have := i2 q (by omega); omega
      · rw [if_neg g, if_pos (by rw [iz_le]; rw [iz_lt] at g; omega)]
        rw [iz_lt] at g
        refine ⟨rfl, fun q hq => ?_⟩
        by_cases e : q = p + 1
        · rw [e]; omega
        · exact i2 q (by omega)
  obtain ⟨m, hm⟩ : ∃ m, n = m + 1 := ⟨n - 1, by omega⟩
  have hk := key m (by omega)
  rw [← hm] at hk
  exact ⟨hk.1, fun q hq => hk.2 q (by omega)⟩
theorem jr_cut (h : Jr_ K n c σ ρ) (hn : n ≤ 5) (h0 : 0 < n) : (hc_cut n σ).2 = (hm_cut n ρ).2 ∧ Jr_ K n c (hc_cut n σ).1 (hm_cut n ρ).1 := by
  have hA := h.2.1
  have e1 : σ 1 = ρ 1 := hA 1 (dm_of (by omega))
  have e2 : σ 2 = ρ 2 := hA 2 (dm_of (by omega))
  have e8 : σ 8 = ρ 8 := hA 8 (dm_of (by omega))
  have e10 : σ 10 = ρ 10 := hA 10 (dm_of (by omega))
  obtain ⟨f1, f2, f3⟩ := far_ok hA (n - 1) (by omega)
  rw [show n - 1 + 1 = n by omega] at f1
  obtain ⟨m, hm⟩ : ∃ m, m = ix_ (hm_farF ρ (n - 1)) := ⟨_, rfl⟩
  rw [← hm] at f1 f2 f3
  obtain ⟨hI, hhI⟩ : ∃ hI, hI = ρ 8 m := ⟨_, rfl⟩
  rw [← hhI] at f1 f3
  obtain ⟨g1, g2⟩ := least_ok (n := n) (hI := hI) hA h0 (fun q hq => f3 q (by omega))
  obtain ⟨x, hx⟩ : ∃ x, x = ml_ ρ hI (ρ 2 (ix_ hI)) n := ⟨_, rfl⟩
  rw [← hx] at g1 g2
  have eb : br_ σ hI n = br_ ρ hI n := by
    funext q; unfold br_; rw [e8, e10]
  obtain ⟨B, hB⟩ : ∃ B, B = br_ ρ hI n := ⟨_, rfl⟩
  rw [← hB] at eb g2
  rw [eb] at g1
  have hC : hc_cut n σ = (u1_ (u1_ σ 8 B) 1 (rl_ (u1_ σ 8 B) x 32), ct_ (fun j => on_ (u1_ σ 8 B) j && decide ((u1_ σ 8 B) 2 j < x)) 32) := by
    unfold hc_cut
    rw [f1, hc_br, eb, g1, hc_rel]
  have hM : hm_cut n ρ = (u1_ (u1_ ρ 8 B) 1 (rl_ (u1_ ρ 8 B) x 32), hm_used (u1_ ρ 8 B) - hm_used (u1_ (u1_ ρ 8 B) 1 (rl_ (u1_ ρ 8 B) x 32))) := by
    unfold hm_cut
    rw [← hm, ← hhI, hm_br, ← hB, ← hx]
    dsimp only
    rw [hm_rel]
  have q1 : (u1_ ρ 8 B) 1 = ρ 1 := u1_ne _ _ (by omega)
  have q2 : (u1_ ρ 8 B) 2 = ρ 2 := u1_ne _ _ (by omega)
  have q1' : (u1_ σ 8 B) 1 = ρ 1 := by rw [u1_ne _ _ (by omega), e1]
  have q2' : (u1_ σ 8 B) 2 = ρ 2 := by rw [u1_ne _ _ (by omega), e2]
  have qo : ∀ j, on_ (u1_ ρ 8 B) j = on_ ρ j := fun j => by unfold on_; rw [q1, q2]
  have qo' : ∀ j, on_ (u1_ σ 8 B) j = on_ ρ j := fun j => by unfold on_; rw [q1', q2']
  have qr : rl_ (u1_ ρ 8 B) x 32 = rl_ ρ x 32 := by funext j; unfold rl_; rw [qo, q1, q2]
  have qr' : rl_ (u1_ σ 8 B) x 32 = rl_ ρ x 32 := by funext j; unfold rl_; rw [qo', q1', q2']
  rw [hC, hM, qr, qr']
  dsimp only
  -- the head that all idle ones go to
  have hm5 : m < n := by omega
  have hPm := h.1.1 m hm5
  unfold Ip_ at hPm
  obtain ⟨c1, -, -, -, -, -, c7, -⟩ := hPm
  obtain ⟨F, hF⟩ : ∃ F, F = ix_ hI := ⟨_, rfl⟩
  have hFz : (tz_ ρ 8 m).toNat = F := by rw [hF, hhI]; rfl
  have hIz : hI.toInt = tz_ ρ 8 m := by rw [hhI]; rfl
  rw [hFz] at c7
  have hxF : x.toInt ≤ tz_ ρ 2 F := by
    have := g2 m hm5
    have hb : (ρ 2 (ix_ (B m))).toInt ≤ (ρ 2 (ix_ hI)).toInt := by
      rw [hB]
      unfold br_
      by_cases z : m < n ∧ ρ 10 m = -1
      · rw [if_pos z]; exact Int.le_refl _
      · rw [if_neg z, ← hhI]; exact Int.le_refl _
    have : (ρ 2 (ix_ hI)).toInt = tz_ ρ 2 F := by rw [hF]; rfl
    omega
  obtain ⟨ρ', hρ⟩ : ∃ ρ', ρ' = u1_ (u1_ ρ 8 B) 1 (rl_ ρ x 32) := ⟨_, rfl⟩
  obtain ⟨σ', hσ⟩ : ∃ σ', σ' = u1_ (u1_ σ 8 B) 1 (rl_ ρ x 32) := ⟨_, rfl⟩
  have rn : ∀ a, a ≠ 1 → a ≠ 8 → ρ' a = ρ a := fun a x1 x8 => by rw [hρ, u1_ne _ _ x1, u1_ne _ _ x8]
  have sn : ∀ a, a ≠ 1 → a ≠ 8 → σ' a = σ a := fun a x1 x8 => by rw [hσ, u1_ne _ _ x1, u1_ne _ _ x8]
  have tn : ∀ a, a ≠ 1 → a ≠ 8 → tz_ ρ' a = tz_ ρ a := fun a x1 x8 => by funext j; unfold tz_; rw [rn a x1 x8]
  have r1 : ρ' 1 = rl_ ρ x 32 := by rw [hρ, u1_same]
  have r8 : ρ' 8 = B := by rw [hρ, u1_ne _ _ (by omega), u1_same]
  have rl1 : ∀ k, k < 32 → (rl_ ρ x 32 k).toInt = if tz_ ρ 1 k = 1 ∧ 1 ≤ tz_ ρ 2 k ∧ tz_ ρ 2 k < x.toInt then 0 else tz_ ρ 1 k := fun k hk => by
    unfold rl_
    have hon := on_tz h.1 hk
    have x2 : (ρ 2 k).toInt = tz_ ρ 2 k := rfl
    by_cases z : tz_ ρ 1 k = 1 ∧ 1 ≤ tz_ ρ 2 k ∧ tz_ ρ 2 k < x.toInt
    · rw [if_pos z, if_pos ⟨hk, hon.mpr ⟨z.1, z.2.1⟩, by rw [iz_lt, x2]; exact z.2.2⟩]; exact iz_0
    · rw [if_neg z, if_neg (fun y => z ⟨(hon.mp y.2.1).1, (hon.mp y.2.1).2, by have := y.2.2; rw [iz_lt, x2] at this; exact this⟩)]; rfl
  refine ⟨?_, ?_⟩
  · have hu : ∀ τ : ST_, hm_used τ = nI (cn_ (fun k => decide (¬ τ 1 k = 0)) 32) := fun τ => ct_cn _ _
    rw [ct_cn, ← hρ, hu, hu]
    have hadd := cn_add (P := fun k => decide (¬ (u1_ ρ 8 B) 1 k = 0)) (P' := fun k => decide (¬ ρ' 1 k = 0)) (Q := fun j => on_ (u1_ σ 8 B) j && decide ((u1_ σ 8 B) 2 j < x)) 32 (fun j hj => by
      rw [qo', q1, q2', r1]
      unfold rl_
      by_cases z : j < 32 ∧ on_ ρ j = true ∧ ρ 2 j < x
      · have z1 := (on_iff.mp z.2.1).1
        rw [if_pos z, z.2.1, decide_eq_true z.2.2, decide_eq_true z1]
        exact ⟨rfl, rfl⟩
      · rw [if_neg z]
        have : (on_ ρ j && decide (ρ 2 j < x)) = false := by
          cases ho : on_ ρ j with
          | false => rfl
          | true => rw [decide_eq_false (fun y => z ⟨hj, ho, y⟩)]; rfl
        rw [this, Bool.or_false, Bool.and_false]
        exact ⟨rfl, rfl⟩)
    have hle := cn_le (fun k => decide (¬ (u1_ ρ 8 B) 1 k = 0)) 32
    rw [pk_sub (by omega)]
    exact congrArg nI (by omega)
  · rw [← hρ, ← hσ]
    refine ⟨iv_cut (F := F) (x := x.toInt) h.1 (by omega) c7.1 c7.2 hxF (fun q hq => ?_) (by rw [tn 0 (by omega) (by omega)]) (fun k hk => ?_) (tn 2 (by omega) (by omega)) (tn 3 (by omega) (by omega)) (tn 4 (by omega) (by omega)) (fun q hq => ?_) (tn 9 (by omega) (by omega)) (tn 10 (by omega) (by omega)) (tn 11 (by omega) (by omega)) (tn 12 (by omega) (by omega)) (tn 13 (by omega) (by omega)) (tn 14 (by omega) (by omega)), ?_, ?_⟩
    · have := g2 q hq
      show x.toInt ≤ (ρ 2 ((ρ' 8 q).toInt.toNat)).toInt
      rw [r8]
      exact this
    · show (ρ' 1 k).toInt = _
      rw [r1]; exact rl1 k hk
    · show (ρ' 8 q).toInt = _
      rw [r8, hB]
      unfold br_
      have x10 : (ρ 10 q).toInt = tz_ ρ 10 q := rfl
      by_cases z : tz_ ρ 10 q = -1
      · rw [if_pos z, if_pos ⟨hq, by rw [iz_eq, iz_m]; exact z⟩, hIz, hF]
        have := iz_ix hI
        omega
      · rw [if_neg z, if_neg (fun y => z (by rw [← x10, y.2]; exact iz_m))]; rfl
    · intro a ha
      rw [hρ, hσ]
      by_cases a1 : a = 1
      · rw [a1, u1_same, u1_same]
      · by_cases a8 : a = 8
        · rw [a8, u1_ne (c := 1) (a := 8) _ _ (by omega), u1_same, u1_ne (c := 1) (a := 8) _ _ (by omega), u1_same]
        · rw [u1_ne _ _ a1, u1_ne _ _ a1, u1_ne _ _ a8, u1_ne _ _ a8, hA a ha]
    · obtain ⟨B1, B2, B3, B4, B5, B6, B7, B8⟩ := h.2.2
      have back : ∀ k, k < 32 → ρ' 1 k = 1 → ρ 1 k = 1 := fun k hk h1 => by
        rw [r1] at h1
        unfold rl_ at h1
        by_cases z : k < 32 ∧ on_ ρ k = true ∧ ρ 2 k < x
        · rw [if_pos z] at h1; exact absurd h1 (by decide)
        · rw [if_neg z] at h1; exact h1
      unfold Eb_
      rw [rn 0 (by omega) (by omega), rn 2 (by omega) (by omega), rn 4 (by omega) (by omega), rn 5 (by omega) (by omega), rn 6 (by omega) (by omega), rn 7 (by omega) (by omega), rn 15 (by omega) (by omega), rn 21 (by omega) (by omega), rn 22 (by omega) (by omega), rn 23 (by omega) (by omega), rn 25 (by omega) (by omega), sn 4 (by omega) (by omega), sn 5 (by omega) (by omega), sn 6 (by omega) (by omega), sn 7 (by omega) (by omega), sn 26 (by omega) (by omega), sn 30 (by omega) (by omega), sn 32 (by omega) (by omega), sn 33 (by omega) (by omega)]
      exact ⟨fun k hk h1 => B1 k hk (back k hk h1), fun k hk h1 => B2 k hk (back k hk h1), B3, fun k hk h1 => B4 k hk (back k hk h1), fun k hk h1 => B5 k hk (back k hk h1), B6, B7, B8⟩
end CUT_B
end
section
section INIT_A
variable {K n c p : Nat} {σ ρ : ST_}
theorem pa_z {K : Nat} {op a b z : Int32} {f : Nat → Int32} (h : 0 ≤ z.toInt ∧ z.toInt ≤ 8) : 0 ≤ (pa_ K op a b f z).2.1.toInt ∧ (pa_ K op a b f z).2.1.toInt ≤ 8 := by
  unfold pa_
  split
  · unfold pq_
    split
    · exact h
    · split
      · split
        · exact h
        · next g =>
          rw [iz_eq, iz_8] at g
          have := iz_add (x := z) h.1 (by omega)
          show 0 ≤ (z + 1).toInt ∧ (z + 1).toInt ≤ 8
          omega
      · split
        · exact h
        · next g =>
          rw [iz_eq, iz_0] at g
          obtain ⟨e, -⟩ := iz_of (x := z) h.1
          obtain ⟨j, hj⟩ : ∃ j, ix_ z = j + 1 := ⟨ix_ z - 1, by have := iz_ix z; omega⟩
          have hj8 : j + 1 ≤ 8 := by have := iz_ix z; omega
          have e2 : z - 1 = nI j := by rw [e, hj, nI_pred]
          have e3 : (nI j).toInt = j := iz_nI (by omega)
          split
          · show 0 ≤ (z - 1).toInt ∧ (z - 1).toInt ≤ 8
            rw [e2, e3]; omega
          · show 0 ≤ (z - 1).toInt ∧ (z - 1).toInt ≤ 8
            rw [e2, e3]; omega
  · split
    · exact h
    · unfold pb_
      split
      · split <;> exact h
      · split <;> exact h
/-- the count behind any stretch of the log -/
theorem rs_z (K : Nat) (cd ca cb : Nat → Int32) : ∀ j, 0 ≤ (rs_ K cd ca cb j).2.1.toInt ∧ (rs_ K cd ca cb j).2.1.toInt ≤ 8 := by
  intro j
  induction j with
  | zero => show 0 ≤ (0 : Int32).toInt ∧ (0 : Int32).toInt ≤ 8; rw [iz_0]; omega
  | succ j ih => unfold rs_; exact pa_z ih
/-- the class's peek: spare takes over logged, and does the call -/
def hc_peek (K : Nat) (op a b : Int32) (σ : ST_) : ST_ := hc_perf K 1 op a b (hc_copy σ)
def hc_peekR (K : Nat) (op a b : Int32) (σ : ST_) : Int32 := hc_perfR K 1 op a b (hc_copy σ)
def hm_peek (K : Nat) (op a b : Int32) (ρ : ST_) : ST_ := hm_act K op a b (hm_rep K (ix_ (ρ 0 1) - 1) ρ)
def hm_peekR (K : Nat) (op a b : Int32) (ρ : ST_) : Int32 := hm_actR K op a b (hm_rep K (ix_ (ρ 0 1) - 1) ρ)
theorem jr_peek (h : Jr_ K n c σ ρ) (op a b : Int32) : hc_peekR K op a b σ = hm_peekR K op a b ρ ∧ Jr_ K n c (hc_peek K op a b σ) (hm_peek K op a b ρ) := by
  obtain ⟨B1, B2, B3, B4, B5, B6, B7, B8⟩ := id h.2.2
  have c31 : hc_copy σ 31 = σ 30 := by unfold hc_copy; rw [u2_ne _ _ _ (by omega), u1_same]
  have c33 : hc_copy σ 33 1 = σ 33 0 := by unfold hc_copy; rw [u2_at, if_pos ⟨rfl, rfl⟩]
  have c330 : hc_copy σ 33 0 = σ 33 0 := by unfold hc_copy; rw [u2_at, if_neg (by omega), u1_ne _ _ (by omega)]
  have c332 : hc_copy σ 33 2 = σ 33 2 := by unfold hc_copy; rw [u2_at, if_neg (by omega), u1_ne _ _ (by omega)]
  have m24 : hm_rep K (ix_ (ρ 0 1) - 1) ρ 24 = (rs_ K (ρ 21) (ρ 22) (ρ 23) (ix_ (ρ 0 1) - 1)).1 := by unfold hm_rep; rw [u2_ne _ _ _ (by omega), u1_same]
  have m02 : hm_rep K (ix_ (ρ 0 1) - 1) ρ 0 2 = (rs_ K (ρ 21) (ρ 22) (ρ 23) (ix_ (ρ 0 1) - 1)).2.1 := by unfold hm_rep; rw [u2_at, if_pos ⟨rfl, rfl⟩]
  have sn : ∀ x, x ≠ 31 → x ≠ 33 → hc_peek K op a b σ x = σ x := fun x x31 x33 => by
    unfold hc_peek hc_perf hc_copy
    rw [u2_ne _ _ _ x33, u1_ne _ _ (show x ≠ 30 + 1 by omega), u2_ne _ _ _ x33, u1_ne _ _ x31]
  have rn : ∀ x, x ≠ 24 → x ≠ 0 → hm_peek K op a b ρ x = ρ x := fun x x24 x0 => by
    unfold hm_peek hm_act hm_rep
    rw [u2_ne _ _ _ x0, u1_ne _ _ x24, u2_ne _ _ _ x0, u1_ne _ _ x24]
  have r0 : ∀ i, i ≠ 2 → hm_peek K op a b ρ 0 i = ρ 0 i := fun i hi => by
    unfold hm_peek hm_act hm_rep
    rw [u2_at, if_neg (fun z => hi z.2), u1_ne _ _ (by omega), u2_at, if_neg (fun z => hi z.2), u1_ne _ _ (by omega)]
  have s330 : hc_peek K op a b σ 33 0 = σ 33 0 := by
    unfold hc_peek hc_perf
    rw [u2_at, if_neg (by omega), u1_ne _ _ (by omega), c330]
  have s332 : hc_peek K op a b σ 33 2 = σ 33 2 := by
    unfold hc_peek hc_perf
    rw [u2_at, if_neg (by omega), u1_ne _ _ (by omega), c332]
  have tn : ∀ x, x ≠ 24 → x ≠ 0 → tz_ (hm_peek K op a b ρ) x = tz_ ρ x := fun x x24 x0 => by funext j; unfold tz_; rw [rn x x24 x0]
  refine ⟨?_, iv_congr h.1 (by show (hm_peek K op a b ρ 0 1).toInt = _; rw [r0 1 (by omega)]; rfl) (tn 1 (by omega) (by omega)) (tn 2 (by omega) (by omega)) (tn 3 (by omega) (by omega)) (tn 4 (by omega) (by omega)) (tn 8 (by omega) (by omega)) (tn 9 (by omega) (by omega)) (tn 10 (by omega) (by omega)) (tn 11 (by omega) (by omega)) (tn 12 (by omega) (by omega)) (tn 13 (by omega) (by omega)) (tn 14 (by omega) (by omega)), fun x hx => ?_, ?_⟩
  · unfold hc_peekR hm_peekR hc_perfR hm_actR
    rw [show 30 + 1 = 31 from rfl, c31, c33, m24, m02, B3.1, B3.2]
  · unfold dm_ at hx
    rw [sn x (by omega) (by omega), rn x (by omega) (by omega)]
    exact h.2.1 x hx
  · unfold Eb_
    rw [rn 1 (by omega) (by omega), rn 2 (by omega) (by omega), rn 4 (by omega) (by omega), rn 5 (by omega) (by omega), rn 6 (by omega) (by omega), rn 7 (by omega) (by omega), rn 15 (by omega) (by omega), rn 21 (by omega) (by omega), rn 22 (by omega) (by omega), rn 23 (by omega) (by omega), rn 25 (by omega) (by omega), sn 4 (by omega) (by omega), sn 5 (by omega) (by omega), sn 6 (by omega) (by omega), sn 7 (by omega) (by omega), sn 26 (by omega) (by omega), sn 30 (by omega) (by omega), sn 32 (by omega) (by omega), s330, s332, r0 1 (by omega), r0 3 (by omega)]
    exact ⟨B1, B2, B3, B4, B5, B6, B7, B8⟩
/-- plain: both keep an object apart -/
def hm_plain (K : Nat) (op a b : Int32) (ρ : ST_) : ST_ :=
  u1_ (u2_ (hm_act K op a b (u1_ (u2_ ρ 0 2 (ρ 0 3)) 24 (ρ 25))) 0 3 (pa_ K op a b (ρ 25) (ρ 0 3)).2.1) 25 (pa_ K op a b (ρ 25) (ρ 0 3)).1
def hm_plainR (K : Nat) (op a b : Int32) (ρ : ST_) : Int32 := (pa_ K op a b (ρ 25) (ρ 0 3)).2.2
theorem jr_plain (h : Jr_ K n c σ ρ) (op a b : Int32) : hc_perfR K 2 op a b σ = hm_plainR K op a b ρ ∧ Jr_ K n c (hc_perf K 2 op a b σ) (hm_plain K op a b ρ) := by
  obtain ⟨B1, B2, B3, B4, B5, B6, B7, B8⟩ := id h.2.2
  have sn : ∀ x, x ≠ 32 → x ≠ 33 → hc_perf K 2 op a b σ x = σ x := fun x x32 x33 => by
    unfold hc_perf
    rw [u2_ne _ _ _ x33, u1_ne _ _ (show x ≠ 30 + 2 by omega)]
  have s32 : hc_perf K 2 op a b σ 32 = (pa_ K op a b (σ 32) (σ 33 2)).1 := by
    unfold hc_perf
    rw [u2_ne _ _ _ (by omega), show 30 + 2 = 32 from rfl, u1_same]
  have s330 : hc_perf K 2 op a b σ 33 0 = σ 33 0 := by
    unfold hc_perf
    rw [u2_at, if_neg (by omega), u1_ne _ _ (by omega)]
  have s332 : hc_perf K 2 op a b σ 33 2 = (pa_ K op a b (σ 32) (σ 33 2)).2.1 := by
    unfold hc_perf
    rw [u2_at, if_pos ⟨rfl, rfl⟩]
  have rn : ∀ x, x ≠ 24 → x ≠ 0 → x ≠ 25 → hm_plain K op a b ρ x = ρ x := fun x x24 x0 x25 => by
    unfold hm_plain hm_act
    rw [u1_ne _ _ x25, u2_ne _ _ _ x0, u2_ne _ _ _ x0, u1_ne _ _ x24, u1_ne _ _ x24, u2_ne _ _ _ x0]
  have r01 : hm_plain K op a b ρ 0 1 = ρ 0 1 := by
    unfold hm_plain hm_act
    rw [u1_ne _ _ (by omega), u2_at, if_neg (by omega), u2_at, if_neg (by omega), u1_ne _ _ (by omega), u1_ne _ _ (by omega), u2_at, if_neg (by omega)]
  have r03 : hm_plain K op a b ρ 0 3 = (pa_ K op a b (ρ 25) (ρ 0 3)).2.1 := by
    unfold hm_plain
    rw [u1_ne _ _ (by omega), u2_at, if_pos ⟨rfl, rfl⟩]
  have r25 : hm_plain K op a b ρ 25 = (pa_ K op a b (ρ 25) (ρ 0 3)).1 := by unfold hm_plain; rw [u1_same]
  have tn : ∀ x, x ≠ 24 → x ≠ 0 → x ≠ 25 → tz_ (hm_plain K op a b ρ) x = tz_ ρ x := fun x x24 x0 x25 => by funext j; unfold tz_; rw [rn x x24 x0 x25]
  refine ⟨?_, iv_congr h.1 (by show (hm_plain K op a b ρ 0 1).toInt = _; rw [r01]; rfl) (tn 1 (by omega) (by omega) (by omega)) (tn 2 (by omega) (by omega) (by omega)) (tn 3 (by omega) (by omega) (by omega)) (tn 4 (by omega) (by omega) (by omega)) (tn 8 (by omega) (by omega) (by omega)) (tn 9 (by omega) (by omega) (by omega)) (tn 10 (by omega) (by omega) (by omega)) (tn 11 (by omega) (by omega) (by omega)) (tn 12 (by omega) (by omega) (by omega)) (tn 13 (by omega) (by omega) (by omega)) (tn 14 (by omega) (by omega) (by omega)), fun x hx => ?_, ?_⟩
  · unfold hc_perfR hm_plainR
    rw [show 30 + 2 = 32 from rfl, B6.1, B6.2.1]
  · unfold dm_ at hx
    rw [sn x (by omega) (by omega), rn x (by omega) (by omega) (by omega)]
    exact h.2.1 x hx
  · unfold Eb_
    rw [rn 1 (by omega) (by omega) (by omega), rn 2 (by omega) (by omega) (by omega), rn 4 (by omega) (by omega) (by omega), rn 5 (by omega) (by omega) (by omega), rn 6 (by omega) (by omega) (by omega), rn 7 (by omega) (by omega) (by omega), rn 15 (by omega) (by omega) (by omega), rn 21 (by omega) (by omega) (by omega), rn 22 (by omega) (by omega) (by omega), rn 23 (by omega) (by omega) (by omega), sn 4 (by omega) (by omega), sn 5 (by omega) (by omega), sn 6 (by omega) (by omega), sn 7 (by omega) (by omega), sn 26 (by omega) (by omega), sn 30 (by omega) (by omega), s32, s330, s332, r01, r03, r25, B6.1, B6.2.1]
    exact ⟨B1, B2, B3, B4, B5, ⟨rfl, rfl, pa_z B6.2.2⟩, B7, B8⟩
/-- the start -/
def hm_init (K : Nat) : ST_ := fun a j => match a with
  | 0 => if j = 1 then 1 else 0
  | 1 => if j = 0 then 1 else 0
  | 2 => if j = 0 then 1 else 0
  | 3 => -1
  | 4 => -1
  | 9 => -1
  | 10 => -1
  | 20 => -1
  | 24 => pi_ K
  | 25 => pi_ K
  | _ => 0
def hc_init (K : Nat) : ST_ := fun a j => match a with
  | 1 => if j = 0 then 1 else 0
  | 2 => if j = 0 then 1 else 0
  | 3 => -1
  | 4 => -1
  | 5 => -1
  | 6 => -1
  | 7 => -1
  | 9 => -1
  | 10 => -1
  | 20 => -1
  | 30 => pi_ K
  | 31 => pi_ K
  | 32 => pi_ K
  | _ => 0
theorem jr_init (K n : Nat) (hn : n ≤ 5) : Jr_ K n 0 (hc_init K) (hm_init K) := by
  have t01 : tz_ (hm_init K) 0 1 = 1 := iz_1
  have t1 : ∀ k, tz_ (hm_init K) 1 k = if k = 0 then 1 else 0 := fun k => by
    show (if k = 0 then (1 : Int32) else 0).toInt = _
    split
    · exact iz_1
    · exact iz_0
  have t2 : ∀ k, tz_ (hm_init K) 2 k = if k = 0 then 1 else 0 := t1
  have t3 : ∀ k, tz_ (hm_init K) 3 k = -1 := fun _ => iz_m
  have t4 : ∀ k, tz_ (hm_init K) 4 k = -1 := fun _ => iz_m
  have t8 : ∀ k, tz_ (hm_init K) 8 k = 0 := fun _ => iz_0
  have t9 : ∀ k, tz_ (hm_init K) 9 k = -1 := fun _ => iz_m
  have t10 : ∀ k, tz_ (hm_init K) 10 k = -1 := fun _ => iz_m
  have t11 : ∀ k, tz_ (hm_init K) 11 k = 0 := fun _ => iz_0
  have t12 : ∀ k, tz_ (hm_init K) 12 k = 0 := fun _ => iz_0
  have t13 : ∀ k, tz_ (hm_init K) 13 k = 0 := fun _ => iz_0
  have t14 : ∀ k, tz_ (hm_init K) 14 k = 0 := fun _ => iz_0
  have hpd : ∀ m, pd_ (tz_ (hm_init K)) m = 0 := by
    intro m
    induction m with
    | zero => rfl
    | succ m ih =>
      unfold pd_ in_
      rw [ih, t10, if_neg (by omega)]
      rfl
  refine ⟨⟨fun p hp => ?_, fun k hk => ?_, fun j k hj hk h1 h2 h3 h4 => ?_, by rw [t01]; omega, ⟨0, by omega, by rw [t1, if_pos rfl], by rw [t2, if_pos rfl, t01]⟩, by rw [t01, hpd]; omega⟩, fun a ha => ?_, ?_⟩
  · unfold Ip_
    rw [t8, t9, t10, t11, t12, t13, t14]
    show _ ∧ _ ∧ _ ∧ _ ∧ _ ∧ _ ∧ (tz_ (hm_init K) 1 0 = 1 ∧ 1 ≤ tz_ (hm_init K) 2 0) ∧ _
    rw [t1, t2, if_pos rfl]
    exact ⟨by omega, by omega, by omega, by omega, by omega, by omega, by omega, fun _ => rfl, by omega, by omega, by omega, by omega, by omega, by omega, by omega⟩
  · unfold In_ Iu_
    rw [t1, t2, t3, t4, t01]
    by_cases e : k = 0
    · rw [if_pos e]
      exact ⟨Or.inr rfl, by omega, fun _ => ⟨by omega, by omega, by omega, by omega, by omega, by omega⟩⟩
    · rw [if_neg e]
      exact ⟨Or.inl rfl, by omega, by omega⟩
  · rw [t1] at h1 h2
    by_cases e : j = 0
    · by_cases e' : k = 0
      · rw [e, e']
      · rw [if_neg e'] at h2; omega
    · rw [if_neg e] at h1; omega
  · unfold dm_ at ha
    have : a = 1 ∨ a = 2 ∨ a = 3 ∨ a = 8 ∨ a = 9 ∨ a = 10 ∨ a = 11 ∨ a = 12 ∨ a = 13 ∨ a = 14 ∨ a = 15 ∨ a = 16 ∨ a = 17 ∨ a = 18 ∨ a = 19 ∨ a = 20 := by omega
    rcases this with rfl | rfl | rfl | rfl | rfl | rfl | rfl | rfl | rfl | rfl | rfl | rfl | rfl | rfl | rfl | rfl <;> rfl
  · have i01 : ix_ (hm_init K 0 1) = 1 := by show ix_ (1 : Int32) = 1; decide
    have m1 : ∀ k, hm_init K 1 k = if k = 0 then 1 else 0 := fun _ => rfl
    have m2 : ∀ k, hm_init K 2 k = if k = 0 then 1 else 0 := fun _ => rfl
    unfold Eb_
    refine ⟨fun k hk h1 h2 => ?_, fun k hk h1 h2 => ⟨rfl, rfl, rfl, rfl⟩, ?_, fun k hk h1 h2 => ?_, fun k hk h1 h2 => ?_, ?_, fun p hp => ?_, fun k hk => ?_⟩
    · rw [m1] at h1
      rw [m2] at h2
      by_cases e : k = 0
      · rw [if_pos e] at h2; exact absurd rfl h2
      · rw [if_neg e] at h1; exact absurd h1 (by decide)
    · rw [i01]; exact ⟨rfl, rfl⟩
    · rw [m2] at h2
      by_cases e : k = 0
      · rw [if_pos e, iz_1] at h2; omega
      · rw [if_neg e, iz_0] at h2; omega
    · rw [m2] at h2
      by_cases e : k = 0
      · rw [if_pos e, iz_1] at h2; omega
      · rw [if_neg e, iz_0] at h2; omega
    · refine ⟨rfl, rfl, ?_⟩
      show 0 ≤ (0 : Int32).toInt ∧ (0 : Int32).toInt ≤ 8
      rw [iz_0]; omega
    · show 0 ≤ (0 : Int32).toInt ∧ (0 : Int32).toInt ≤ 2
      rw [iz_0]; omega
    · show 0 ≤ (0 : Int32).toInt ∧ (0 : Int32).toInt ≤ 2
      rw [iz_0]; omega
end INIT_A
end
section
section MEM0
theorem arr_same {cA : ClassId} {n : Nat} {f f' : Nat → Int32} (hf : ∀ j, j < n → f j = f' j) : vp_cell cA (n, .inl f) = vp_cell cA (n, .inl f') := by
  rw [vp_cell_i, vp_cell_i]
  unfold arrV
  congr 1
  apply Array.ext
  · simp
  · intro i h1 h2
    simp at h1
    simp [hf i h1]
end MEM0
section MEM
variable {p : Program} {l : Launch} {e : Env} {R : Room} {s : State} {m : MethodId} {args : Array Value} {below : List Frame} {meth : Method} {c : Code} {D : va_G} {cl : List vw_C} {A : Nat → Prop} {nL cells slots : Nat} {Q : State → Prop}
variable {cc : ByteArray} {own : String} {tys : List (ClassId × FieldType)} {TS : List Cond} {pc : Nat} {L : List (Nat × Value)} {rest : List Value}
variable {ad : Nat → Nat} {N : Nat} {g : Nat → va_E}
theorem go_get (X : Cx_ p l e R s m args below meth c cc nL own D cl tys TS) {C ref : String} {T : u_T} {Nf ci i k index : Nat} {fs : List Value} {v : Value} (hin : ∀ w ∈ u_ws C T Nf, w ∈ TS) (hc : cl[ci]? = some (C, T, Nf)) (hi : i < N) (hg : g i = .inr (ci, fs)) (hk : k < Nf) (hl : Cond.fieldLink own index ref (T k).2.1 (T k).2.2.1 ∈ TS) (hsame : ∀ x, s.fieldFound? (T k).1 (T k).2.1 (T k).2.2.1 = some x → s.fieldFound? ref (T k).2.1 (T k).2.2.1 = some x) (hv : fs[k]? = some v) (d : decode cc pc = .ok (.getfield index, 3))
    (kk : Go_ p l e R s m args below meth c D cl A nL cells slots Q (wl_ ad N g) (pc + 3) L (v :: rest)) : Go_ p l e R s m args below meth c D cl A nL cells slots Q (wl_ ad N g) pc L (.ref (ad i) :: rest) := fun H locs ls hP hD hS h =>
  va_get X.1 X.2.1 X.2.2.2.2.1 hin X.2.2.2.1 X.2.2.2.2.2.1 hP i (by rw [wl_at hi, hg]) hc k hk (X.2.2.2.2.1 _ hl) hsame hv d (kk H locs ls hP hD hS h)
theorem go_put (X : Cx_ p l e R s m args below meth c cc nL own D cl tys TS) {C ref : String} {T : u_T} {Nf ci i k index : Nat} {fs : List Value} {v : Value} {ty : FieldType} (hin : ∀ w ∈ u_ws C T Nf, w ∈ TS) (hc : cl[ci]? = some (C, T, Nf)) (ty0 : Nat → FieldType) (hty : ∀ k, k < Nf → parseFieldDescriptor (T k).2.2.1 = some (ty0 k)) (hnm : ∀ a, a < Nf → ∀ b, b < Nf → a ≠ b → (T a).2.1 ≠ (T b).2.1) (hi : i < N) (hg : g i = .inr (ci, fs)) (hk : k < Nf) (hl : Cond.fieldLink own index ref (T k).2.1 (T k).2.2.1 ∈ TS) (hsame : ∀ x, s.fieldFound? (T k).1 (T k).2.1 (T k).2.2.1 = some x → s.fieldFound? ref (T k).2.1 (T k).2.2.1 = some x) (hfin : (T k).2.2.2 = false) (hd : parseFieldDescriptor (T k).2.2.1 = some ty) (hn : narrow ty v = v) (hfit : fits ty v = true) (hlen : k < fs.length) (d : decode cc pc = .ok (.putfield index, 3))
    (kk : Go_ p l e R s m args below meth c D cl A nL cells slots Q (wl_ ad N (va_up g i (.inr (ci, fs.set k v)))) (pc + 3) L rest) : Go_ p l e R s m args below meth c D cl A nL cells slots Q (wl_ ad N g) pc L (v :: .ref (ad i) :: rest) := fun H locs ls hP hD hS h =>
  va_put X.1 X.2.1 X.2.2.2.2.1 hin ty0 hty hnm X.2.2.2.1 X.2.2.2.2.2.1 hP hD hS i (by rw [wl_at hi, hg]) hc k hk (X.2.2.2.2.1 _ hl) hsame hfin hd hn hfit hlen d (fun H1 locs1 hP1 hD1 hS1 => kk H1 locs1 ls (by rw [← wl_set]; exact hP1) (by rw [← wl_set]; exact hD1) hS1 h)
theorem go_iald (X : Cx_ p l e R s m args below meth c cc nL own D cl tys TS) {i t0 n : Nat} {cA : ClassId} {f : Nat → Int32} {j : Int32} {j' : Nat} (hi : i < N) (hg : g i = .inl (cA, n, .inl f)) (ht : tys[t0]? = some (cA, .int)) (hj : vp_in j n) (hj' : j.toNatClampNeg = j') (d : decode cc pc = .ok (.iaload, 1))
    (kk : Go_ p l e R s m args below meth c D cl A nL cells slots Q (wl_ ad N g) (pc + 1) L (.int (f j') :: rest)) : Go_ p l e R s m args below meth c D cl A nL cells slots Q (wl_ ad N g) pc L (.int j :: .ref (ad i) :: rest) := fun H locs ls hP hD hS h => by
  subst hj'
  exact va_iald X.1 X.2.1 X.2.2.2.2.2.1 hP i t0 (by rw [wl_at hi, hg]) ht hj d (kk H locs ls hP hD hS h)
theorem go_zald (X : Cx_ p l e R s m args below meth c cc nL own D cl tys TS) {i t0 n : Nat} {cA : ClassId} {f : Nat → Int32} {j : Int32} {j' : Nat} (hi : i < N) (hg : g i = .inl (cA, n, .inl f)) (ht : tys[t0]? = some (cA, .boolean)) (hj : vp_in j n) (hj' : j.toNatClampNeg = j') (d : decode cc pc = .ok (.baload, 1))
    (kk : Go_ p l e R s m args below meth c D cl A nL cells slots Q (wl_ ad N g) (pc + 1) L (.int (f j') :: rest)) : Go_ p l e R s m args below meth c D cl A nL cells slots Q (wl_ ad N g) pc L (.int j :: .ref (ad i) :: rest) := fun H locs ls hP hD hS h => by
  subst hj'
  exact va_zald X.1 X.2.1 X.2.2.2.2.2.1 hP i t0 (by rw [wl_at hi, hg]) ht hj d (kk H locs ls hP hD hS h)
theorem go_iast (X : Cx_ p l e R s m args below meth c cc nL own D cl tys TS) {i t0 n : Nat} {cA : ClassId} {f : Nat → Int32} {j x : Int32} {j' : Nat} (hi : i < N) (hg : g i = .inl (cA, n, .inl f)) (ht : tys[t0]? = some (cA, .int)) (hj : vp_in j n) (hj' : j.toNatClampNeg = j') (d : decode cc pc = .ok (.iastore, 1))
    (kk : Go_ p l e R s m args below meth c D cl A nL cells slots Q (wl_ ad N (va_up g i (.inl (cA, n, .inl (upd f j' x))))) (pc + 1) L rest) : Go_ p l e R s m args below meth c D cl A nL cells slots Q (wl_ ad N g) pc L (.int x :: .int j :: .ref (ad i) :: rest) := fun H locs ls hP hD hS h => by
  subst hj'
  exact va_iast X.1 X.2.1 X.2.2.2.2.2.1 hP hD hS i t0 (by rw [wl_at hi, hg]) ht hj d (fun H1 locs1 hP1 hD1 hS1 => kk H1 locs1 ls (by rw [← wl_set]; exact hP1) (by rw [← wl_set]; exact hD1) hS1 h)
theorem go_zast (X : Cx_ p l e R s m args below meth c cc nL own D cl tys TS) {i t0 n : Nat} {cA : ClassId} {f : Nat → Int32} {j x : Int32} {j' : Nat} (hi : i < N) (hg : g i = .inl (cA, n, .inl f)) (ht : tys[t0]? = some (cA, .boolean)) (hj : vp_in j n) (hj' : j.toNatClampNeg = j') (hx : vp_nar .boolean x = x) (d : decode cc pc = .ok (.bastore, 1))
    (kk : Go_ p l e R s m args below meth c D cl A nL cells slots Q (wl_ ad N (va_up g i (.inl (cA, n, .inl (upd f j' x))))) (pc + 1) L rest) : Go_ p l e R s m args below meth c D cl A nL cells slots Q (wl_ ad N g) pc L (.int x :: .int j :: .ref (ad i) :: rest) := fun H locs ls hP hD hS h => by
  subst hj'
  refine va_zast X.1 X.2.1 X.2.2.2.2.2.1 hP hD hS i t0 (by rw [wl_at hi, hg]) ht hj d (fun H1 locs1 hP1 hD1 hS1 => kk H1 locs1 ls ?_ ?_ hS1 h)
  · rw [hx] at hP1; rw [← wl_set]; exact hP1
  · rw [hx] at hD1; rw [← wl_set]; exact hD1
theorem go_alen (X : Cx_ p l e R s m args below meth c cc nL own D cl tys TS) {i t0 : Nat} {cA : ClassId} {x : vp_A} {ty : FieldType} {v : Int32} (hi : i < N) (hg : g i = .inl (cA, x)) (ht : tys[t0]? = some (cA, ty)) (hv : Int32.ofNat x.1 = v) (d : decode cc pc = .ok (.arraylength, 1))
    (kk : Go_ p l e R s m args below meth c D cl A nL cells slots Q (wl_ ad N g) (pc + 1) L (.int v :: rest)) : Go_ p l e R s m args below meth c D cl A nL cells slots Q (wl_ ad N g) pc L (.ref (ad i) :: rest) := fun H locs ls hP hD hS h =>
  va_alen X.1 X.2.1 X.2.2.2.2.2.1 hP i t0 (by rw [wl_at hi, hg]) ht hv d (kk H locs ls hP hD hS h)
theorem go_aald (X : Cx_ p l e R s m args below meth c cc nL own D cl tys TS) {i t0 n : Nat} {cA : ClassId} {C : String} {f : Nat → Option Nat} {j : Int32} {j' a : Nat} (hi : i < N) (hg : g i = .inl (cA, n, .inr (.inr (.inr (.inr f))))) (ht : tys[t0]? = some (cA, .object C)) (hj : vp_in j n) (hj' : j.toNatClampNeg = j') (ha : f j' = some a) (d : decode cc pc = .ok (.aaload, 1))
    (kk : Go_ p l e R s m args below meth c D cl A nL cells slots Q (wl_ ad N g) (pc + 1) L (.ref a :: rest)) : Go_ p l e R s m args below meth c D cl A nL cells slots Q (wl_ ad N g) pc L (.int j :: .ref (ad i) :: rest) := fun H locs ls hP hD hS h => by
  subst hj'
  refine va_aldq X.1 X.2.1 X.2.2.2.2.2.1 hP i t0 (by rw [wl_at hi, hg]) ht hj d ?_
  rw [ha]
  exact kk H locs ls hP hD hS h
/-- an array's contents matter up to its length -/
theorem go_arr {i n : Nat} {cA : ClassId} {f f' : Nat → Int32} (hf : ∀ j, j < n → f j = f' j) (kk : Go_ p l e R s m args below meth c D cl A nL cells slots Q (wl_ ad N (va_up g i (.inl (cA, n, .inl f')))) pc L rest) : Go_ p l e R s m args below meth c D cl A nL cells slots Q (wl_ ad N (va_up g i (.inl (cA, n, .inl f)))) pc L rest := fun H locs ls hP hD hS h => by
  refine kk H locs ls (fun k q hk => ?_) ⟨fun a b x y ha hb hxy => ?_, fun k q hk => ?_⟩ hS h
  · by_cases hkN : k < N
    · rw [wl_at hkN] at hk
      by_cases e : k = i
      · subst e
        rw [va_up_self] at hk
        have h1 := hP k _ (wl_at hkN)
        rw [va_up_self] at h1
        cases hk
        have h2 : H[ad k]? = some (vp_cell cA (n, .inl f)) := h1
        show H[ad k]? = some (vp_cell cA (n, .inl f'))
        rw [h2]
        congr 1
        exact arr_same hf
      · rw [va_up_ne _ _ e] at hk
        have h1 := hP k _ (wl_at hkN)
        rw [va_up_ne _ _ e] at h1
        cases hk
        exact h1
    · rw [wl_none (Nat.not_lt.mp hkN)] at hk
      cases hk
  · have key : ∀ {k : Nat} {q : Nat × va_E}, (wl_ ad N (va_up g i (.inl (cA, n, .inl f'))))[k]? = some q → ∃ q' : Nat × va_E, (wl_ ad N (va_up g i (.inl (cA, n, .inl f))))[k]? = some q' ∧ q'.1 = q.1 := fun {k} {q} hk => by
      by_cases hkN : k < N
      · rw [wl_at hkN] at hk ⊢
        cases hk
        exact ⟨_, rfl, rfl⟩
      · rw [wl_none (Nat.not_lt.mp hkN)] at hk
        cases hk
    obtain ⟨x', hx', ex⟩ := key ha
    obtain ⟨y', hy', ey⟩ := key hb
    exact hD.1 a b x' y' hx' hy' (by rw [ex, ey]; exact hxy)
  · by_cases hkN : k < N
    · rw [wl_at hkN] at hk
      cases hk
      exact hD.2 k (ad k, va_up g i (.inl (cA, n, .inl f)) k) (wl_at hkN)
    · rw [wl_none (Nat.not_lt.mp hkN)] at hk
      cases hk
end MEM
end
section
section MW_A
/-- the array classes that both sides use -/
abbrev tys_ (T : Nat → ClassId) : List (ClassId × FieldType) := [(T 0, .int), (T 1, .boolean), (T 2, .long), (T 3, .object "HelpedLog$Node"), (T 4, .object "HelpedLog$Caller")]
/-- an index in range, and the place it names -/
def Ix_ (i : Int32) (N j : Nat) : Prop := vp_in i N ∧ ix_ i = j
theorem Ix_n {j N : Nat} (h : j < N) (hN : N < 2 ^ 31) : Ix_ (nI j) N j := ⟨vp_in_nI h hN, nI_clamp (by omega)⟩
theorem Ix_r {i : Int32} {N : Nat} (h0 : 0 ≤ i.toInt) (h : i.toInt < N) : Ix_ i N (ix_ i) := ⟨vp_in_iff.mpr ⟨h0, h⟩, rfl⟩
theorem Ix_lt {i : Int32} {N j : Nat} (h : Ix_ i N j) : j < N := by
  obtain ⟨h1, h2⟩ := h
  have h3 := vp_in_iff.mp h1
  rw [← h2, iz_ix]
  omega
/-- the length of the reference's array c -/
def lm_ (c : Nat) : Nat := cond (Nat.blt c 8) 32 (cond (Nat.blt c 21) 5 (cond (Nat.blt c 24) 600 8))
def mF_ (ad : Nat → Nat) (K n : Nat) (ρ : ST_) : List Value := [.int (ρ 0 0), .int (nI K), .int (nI n), .ref (ad 1), .ref (ad 2), .ref (ad 3), .ref (ad 4), .ref (ad 5), .ref (ad 6), .ref (ad 7), .ref (ad 8), .ref (ad 9), .ref (ad 10), .ref (ad 11), .ref (ad 12), .ref (ad 13), .ref (ad 14), .ref (ad 15), .ref (ad 16), .ref (ad 17), .ref (ad 18), .ref (ad 19), .ref (ad 20), .int (ρ 0 1), .ref (ad 21), .ref (ad 22), .ref (ad 23), .ref (ad 24), .int (ρ 0 2), .ref (ad 25), .int (ρ 0 3)]
def mE_ (T : Nat → ClassId) (ad : Nat → Nat) (K n : Nat) (ρ : ST_) : Nat → va_E
  | 0 => .inr (7, mF_ ad K n ρ)
  | c + 1 => .inl (T (cond (Nat.beq c 0) 1 0), lm_ (c + 1), .inl (ρ (c + 1)))
def mW_ (T : Nat → ClassId) (ad : Nat → Nat) (K n : Nat) (ρ : ST_) : va_W := wl_ ad 26 (mE_ T ad K n ρ)
theorem mE_arr (T : Nat → ClassId) (ad : Nat → Nat) (K n : Nat) (ρ : ST_) {c : Nat} (h : 2 ≤ c) : mE_ T ad K n ρ c = .inl (T 0, lm_ c, .inl (ρ c)) := by
  obtain ⟨d, rfl⟩ : ∃ d, c = d + 2 := ⟨c - 2, by omega⟩
  rfl
theorem mE_bool (T : Nat → ClassId) (ad : Nat → Nat) (K n : Nat) (ρ : ST_) : mE_ T ad K n ρ 1 = .inl (T 1, lm_ 1, .inl (ρ 1)) := rfl
theorem mE_u1 (T : Nat → ClassId) (ad : Nat → Nat) (K n : Nat) (ρ : ST_) {c : Nat} (hc : 1 ≤ c) (f : Nat → Int32) {cA : ClassId} (hA : mE_ T ad K n ρ c = .inl (cA, lm_ c, .inl (ρ c))) : ∀ i, va_up (mE_ T ad K n ρ) c (.inl (cA, lm_ c, .inl f)) i = mE_ T ad K n (u1_ ρ c f) i := by
  intro i
  match i with
  | 0 =>
    rw [va_up_ne _ _ (by omega)]
    unfold mE_ mF_
    rw [u1_ne ρ f (show 0 ≠ c by omega)]
  | d + 1 =>
    by_cases e : d + 1 = c
    · subst e
      rw [va_up_self]
      have h1 : mE_ T ad K n ρ (d + 1) = .inl (T (cond (Nat.beq d 0) 1 0), lm_ (d + 1), .inl (ρ (d + 1))) := rfl
      have h2 : mE_ T ad K n (u1_ ρ (d + 1) f) (d + 1) = .inl (T (cond (Nat.beq d 0) 1 0), lm_ (d + 1), .inl (u1_ ρ (d + 1) f (d + 1))) := rfl
      rw [h2, u1_same]
      rw [h1] at hA
      have h3 := Sum.inl.inj hA
      rw [Prod.mk.injEq] at h3
      rw [h3.1]
    · rw [va_up_ne _ _ e]
      show Sum.inl _ = Sum.inl _
      rw [u1_ne ρ f e]
theorem mE_s (T : Nat → ClassId) (ad : Nat → Nat) (K n : Nat) (ρ : ST_) (j k : Nat) (v : Int32) (hF : (mF_ ad K n ρ).set k (.int v) = mF_ ad K n (u2_ ρ 0 j v)) : ∀ i, va_up (mE_ T ad K n ρ) 0 (.inr (7, (mF_ ad K n ρ).set k (.int v))) i = mE_ T ad K n (u2_ ρ 0 j v) i := by
  intro i
  match i with
  | 0 => rw [va_up_self, hF]; rfl
  | d + 1 =>
    rw [va_up_ne _ _ (by omega)]
    show Sum.inl _ = Sum.inl _
    rw [u2_ne ρ j v (show d + 1 ≠ 0 by omega)]
theorem mF_s0 (ad : Nat → Nat) (K n : Nat) (ρ : ST_) (v : Int32) : (mF_ ad K n ρ).set 0 (.int v) = mF_ ad K n (u2_ ρ 0 0 v) := rfl
theorem mF_s1 (ad : Nat → Nat) (K n : Nat) (ρ : ST_) (v : Int32) : (mF_ ad K n ρ).set 23 (.int v) = mF_ ad K n (u2_ ρ 0 1 v) := rfl
theorem mF_s2 (ad : Nat → Nat) (K n : Nat) (ρ : ST_) (v : Int32) : (mF_ ad K n ρ).set 28 (.int v) = mF_ ad K n (u2_ ρ 0 2 v) := rfl
theorem mF_s3 (ad : Nat → Nat) (K n : Nat) (ρ : ST_) (v : Int32) : (mF_ ad K n ρ).set 30 (.int v) = mF_ ad K n (u2_ ρ 0 3 v) := rfl
theorem ft_M1 (k : Nat) : (ft_M k).1 = "HelpedLogModel" := by
  unfold ft_M
  split <;> rfl
end MW_A
section MW_B
variable {p : Program} {l : Launch} {e : Env} {R : Room} {s : State} {m : MethodId} {args : Array Value} {below : List Frame} {meth : Method} {c : Code} {D : va_G} {A : Nat → Prop} {nL cells slots : Nat} {Q : State → Prop}
variable {cc : ByteArray} {T : Nat → ClassId} {pc : Nat} {L : List (Nat × Value)} {rest : List Value} {ad : Nat → Nat} {K n : Nat} {ρ : ST_}
theorem gm_get (X : Cx_ p l e R s m args below meth c cc nL rn_M D cl_ (tys_ T) TG_) {index : Nat} {v : Value} (k : Nat) (hk : k < 31) (hl : Cond.fieldLink rn_M index rn_M (ft_M k).2.1 (ft_M k).2.2.1 ∈ TG_) (hv : (mF_ ad K n ρ)[k]? = some v) (d : decode cc pc = .ok (.getfield index, 3))
    (kk : Go_ p l e R s m args below meth c D cl_ A nL cells slots Q (mW_ T ad K n ρ) (pc + 3) L (v :: rest)) : Go_ p l e R s m args below meth c D cl_ A nL cells slots Q (mW_ T ad K n ρ) pc L (.ref (ad 0) :: rest) :=
  go_get (ci := 7) (k := k) X in_M rfl (show 0 < 26 by omega) rfl hk hl (fun x h => by rw [ft_M1] at h; exact h) hv d kk
theorem gm_put (X : Cx_ p l e R s m args below meth c cc nL rn_M D cl_ (tys_ T) TG_) {index : Nat} {v : Int32} (k j : Nat) (hk : k < 31) (hl : Cond.fieldLink rn_M index rn_M (ft_M k).2.1 (ft_M k).2.2.1 ∈ TG_) (hfin : (ft_M k).2.2.2 = false) (hd : parseFieldDescriptor (ft_M k).2.2.1 = some .int) (hF : (mF_ ad K n ρ).set k (.int v) = mF_ ad K n (u2_ ρ 0 j v)) (d : decode cc pc = .ok (.putfield index, 3))
    (kk : Go_ p l e R s m args below meth c D cl_ A nL cells slots Q (mW_ T ad K n (u2_ ρ 0 j v)) (pc + 3) L rest) : Go_ p l e R s m args below meth c D cl_ A nL cells slots Q (mW_ T ad K n ρ) pc L (.int v :: .ref (ad 0) :: rest) := by
  refine go_put (ci := 7) (k := k) X in_M rfl ty_M tk_M nm_M (show 0 < 26 by omega) rfl hk hl (fun x h => by rw [ft_M1] at h; exact h) hfin hd rfl rfl (show k < 31 from hk) d ?_
  rw [wl_congr (fun i _ => mE_s T ad K n ρ j k v hF i)]
  exact kk
theorem gm_ld (X : Cx_ p l e R s m args below meth c cc nL rn_M D cl_ (tys_ T) TG_) {a j : Nat} {i : Int32} {f : Nat → Int32} (hf : ρ a = f) (ha : 2 ≤ a ∧ a < 26) (hi : Ix_ i (lm_ a) j) (d : decode cc pc = .ok (.iaload, 1))
    (kk : Go_ p l e R s m args below meth c D cl_ A nL cells slots Q (mW_ T ad K n ρ) (pc + 1) L (.int (f j) :: rest)) : Go_ p l e R s m args below meth c D cl_ A nL cells slots Q (mW_ T ad K n ρ) pc L (.int i :: .ref (ad a) :: rest) := by
  subst hf
  exact go_iald (t0 := 0) X ha.2 (mE_arr T ad K n ρ ha.1) rfl hi.1 hi.2 d kk
theorem gm_zld (X : Cx_ p l e R s m args below meth c cc nL rn_M D cl_ (tys_ T) TG_) {j : Nat} {i : Int32} {f : Nat → Int32} (hf : ρ 1 = f) (hi : Ix_ i 32 j) (d : decode cc pc = .ok (.baload, 1))
    (kk : Go_ p l e R s m args below meth c D cl_ A nL cells slots Q (mW_ T ad K n ρ) (pc + 1) L (.int (f j) :: rest)) : Go_ p l e R s m args below meth c D cl_ A nL cells slots Q (mW_ T ad K n ρ) pc L (.int i :: .ref (ad 1) :: rest) := by
  subst hf
  exact go_zald (t0 := 1) X (show 1 < 26 by omega) (mE_bool T ad K n ρ) rfl hi.1 hi.2 d kk
theorem gm_st (X : Cx_ p l e R s m args below meth c cc nL rn_M D cl_ (tys_ T) TG_) {a j : Nat} {i x : Int32} (ha : 2 ≤ a ∧ a < 26) (hi : Ix_ i (lm_ a) j) (d : decode cc pc = .ok (.iastore, 1))
    (kk : Go_ p l e R s m args below meth c D cl_ A nL cells slots Q (mW_ T ad K n (u2_ ρ a j x)) (pc + 1) L rest) : Go_ p l e R s m args below meth c D cl_ A nL cells slots Q (mW_ T ad K n ρ) pc L (.int x :: .int i :: .ref (ad a) :: rest) := by
  refine go_iast (t0 := 0) X ha.2 (mE_arr T ad K n ρ ha.1) rfl hi.1 hi.2 d ?_
  rw [wl_congr (fun i _ => mE_u1 T ad K n ρ (by omega) (upd (ρ a) j x) (mE_arr T ad K n ρ ha.1) i)]
  exact kk
theorem gm_zst (X : Cx_ p l e R s m args below meth c cc nL rn_M D cl_ (tys_ T) TG_) {j : Nat} {i x : Int32} (hi : Ix_ i 32 j) (hx : vp_nar .boolean x = x) (d : decode cc pc = .ok (.bastore, 1))
    (kk : Go_ p l e R s m args below meth c D cl_ A nL cells slots Q (mW_ T ad K n (u2_ ρ 1 j x)) (pc + 1) L rest) : Go_ p l e R s m args below meth c D cl_ A nL cells slots Q (mW_ T ad K n ρ) pc L (.int x :: .int i :: .ref (ad 1) :: rest) := by
  refine go_zast (t0 := 1) X (show 1 < 26 by omega) (mE_bool T ad K n ρ) rfl hi.1 hi.2 hx d ?_
  rw [wl_congr (fun i _ => mE_u1 T ad K n ρ (show 1 ≤ 1 by omega) (upd (ρ 1) j x) (mE_bool T ad K n ρ) i)]
  exact kk
/-- what an array holds matters up to its length -/
theorem gm_arr {a : Nat} {f f' : Nat → Int32} (ha : 2 ≤ a) (hf : ∀ j, j < lm_ a → f j = f' j) (kk : Go_ p l e R s m args below meth c D cl_ A nL cells slots Q (mW_ T ad K n (u1_ ρ a f')) pc L rest) : Go_ p l e R s m args below meth c D cl_ A nL cells slots Q (mW_ T ad K n (u1_ ρ a f)) pc L rest := by
  have h1 : ∀ f, mW_ T ad K n (u1_ ρ a f) = wl_ ad 26 (va_up (mE_ T ad K n ρ) a (.inl (T 0, lm_ a, .inl f))) := fun f => (wl_congr (fun i _ => mE_u1 T ad K n ρ (by omega) f (mE_arr T ad K n ρ ha) i)).symm
  rw [h1] at kk ⊢
  exact go_arr hf kk
/-- a contract of the reference's: its receiver is the object -/
def cm_ (l : Launch) (D : va_G) (T : Nat → ClassId) (ad : Nat → Nat) (K n : Nat) (A : Nat → Prop) (nw : List Cond) (y : MethodName) (h : Cond) (d : Nat) (av : List Value) (ρ ρ' : ST_) (r : Option Value) : Prop :=
  Ct_ l D cl_ (tys_ T) A nw y (h :: TG_) (rm_d d) (.ref (ad 0) :: av) (mW_ T ad K n ρ) (mW_ T ad K n ρ') r
end MW_B
end
section
section CALLS_A
theorem tg_all {ws : List Cond} (h : ∀ w ∈ ws, w ∈ TG_) : GoodIn TG_ ws := fun w hw => ⟨h w hw, good_of_word (List.mem_filter.mp (h w hw)).2⟩
theorem tg_wsV {own C : String} {index : Nat} {y : MethodName} {k : Cond} (h1 : Cond.methodLink own index y ∈ TG_) (h2 : Cond.instanceMethod y ∈ TG_) (h3 : Cond.selects C y y ∈ TG_) (h4 : Cond.initialized C ∈ TG_) (h5 : k ∈ TG_) : GoodIn TG_ (wsV own index C y (k :: TG_)) := tg_all (fun w hw => by
  unfold wsV at hw
  simp only [List.cons_append, List.nil_append, List.mem_cons] at hw
  rcases hw with rfl | rfl | rfl | rfl | rfl | hw
  · exact h1
  · exact h2
  · exact h3
  · exact h4
  · exact h5
  · exact hw)
theorem tg_wsS {own : String} {index : Nat} {y : MethodName} {k : Cond} (h1 : Cond.methodLink own index y ∈ TG_) (h2 : Cond.static y ∈ TG_) (h4 : Cond.initialized own ∈ TG_) (h5 : k ∈ TG_) : GoodIn TG_ (wsS own index y (k :: TG_)) := tg_all (fun w hw => by
  unfold wsS at hw
  simp only [List.cons_append, List.nil_append, List.mem_cons] at hw
  rcases hw with rfl | rfl | rfl | rfl | hw
  · exact h1
  · exact h2
  · exact h4
  · exact h5
  · exact hw)
end CALLS_A
section CALLS_B
variable {p : Program} {l : Launch} {e : Env} {R : Room} {s : State} {m : MethodId} {args : Array Value} {below : List Frame} {meth : Method} {c : Code} {D : va_G} {cl : List vw_C} {A : Nat → Prop} {nL cells slots : Nat} {Q : State → Prop} {w w' : va_W}
variable {cc : ByteArray} {own : String} {tys : List (ClassId × FieldType)} {pc : Nat} {L : List (Nat × Value)} {rest : List Value} {nw : List Cond} {r : Option Value}
theorem go_callV (X : Cx_ p l e R s m args below meth c cc nL own D cl tys TG_) (hN : NW_ nw s) {C : String} {Tf : u_T} {Nf ci i a index maxL n : Nat} {y : MethodName} {bytes : ByteArray} {ret : Option FieldType} {rm : Room} {As fs st0 : List Value}
    (hM : Ct_ l D cl tys A nw y (.code y bytes maxL ret :: TG_) rm (.ref a :: As) w w' r) (h1 : Cond.methodLink own index y ∈ TG_) (h2 : Cond.instanceMethod y ∈ TG_) (h3 : Cond.selects C y y ∈ TG_) (h4 : Cond.initialized C ∈ TG_) (h5 : Cond.code y bytes maxL ret ∈ TG_)
    (hd : y.cls = C ∧ y.cls ≠ "java/lang/invoke/MethodHandle" ∧ y.cls ≠ "java/lang/invoke/VarHandle" ∧ (parseMethodDescriptor y.desc).map (fun d => d.parameters.length) = some n) (hR : rm.cells = 0 ∧ rm.slots = 0 ∧ rm.frames + 1 ≤ R.frames ∧ 8 + (maxL + 11) + rm.locals ≤ R.locals)
    (hc : cl[ci]? = some (C, Tf, Nf)) (hw : w[i]? = some (a, .inr (ci, fs))) (hst : st0 = As.reverse ++ .ref a :: rest) (hn : As.length = n) (hroom : (rest.map fun v => v.category).sum ≤ 8) (d : decode cc pc = .ok (.invokevirtual index, 3))
    (k : Go_ p l e R s m args below meth c D cl A nL cells slots Q w' (pc + 3) L (r.toList ++ rest)) (hcs : cells ≤ R.cells ∧ slots ≤ R.slots) : Go_ p l e R s m args below meth c D cl A nL cells slots Q w pc L st0 := by
  refine go_run (r := r) (rest := rest) (a := (Value.ref a :: As).toArray) (fun H locs ls hP hD hl => ?_) k
  obtain ⟨hx, hb, hml, hown, hts, hK, -⟩ := X
  exact va_runV (As := As) (rest := rest) ⟨hx, hb, hml, hown, hts⟩ hM (cwV n hts (tg_wsV h1 h2 h3 h4 h5) rfl hR.1 hR.2.1 hd hR.2.2) ⟨Pd_blind, va_recv hK hP hc hw, fun U hU hW => ⟨rfl, by rw [hU]; exact hP, hD, va_K.moved hW.alike hK, NW_warm hW hN⟩⟩ rfl hn hl.1.1 hst (lv_room hroom) d hcs
theorem go_callS (X : Cx_ p l e R s m args below meth c cc nL own D cl tys TG_) (hN : NW_ nw s) {index maxL n : Nat} {y : MethodName} {bytes : ByteArray} {ret : Option FieldType} {rm : Room} {As st0 : List Value}
    (hM : Ct_ l D cl tys A nw y (.code y bytes maxL ret :: TG_) rm As w w' r) (h1 : Cond.methodLink own index y ∈ TG_) (h2 : Cond.static y ∈ TG_) (h4 : Cond.initialized own ∈ TG_) (h5 : Cond.code y bytes maxL ret ∈ TG_)
    (hd : y.cls = own ∧ y.cls ≠ "java/lang/invoke/MethodHandle" ∧ y.cls ≠ "java/lang/invoke/VarHandle" ∧ (parseMethodDescriptor y.desc).map (fun d => d.parameters.length) = some n) (hR : rm.cells = 0 ∧ rm.slots = 0 ∧ rm.frames + 1 ≤ R.frames ∧ 8 + (maxL + 11) + rm.locals ≤ R.locals)
    (hst : st0 = As.reverse ++ rest) (hn : As.length = n) (hroom : (rest.map fun v => v.category).sum ≤ 8) (d : decode cc pc = .ok (.invokestatic index, 3))
    (k : Go_ p l e R s m args below meth c D cl A nL cells slots Q w' (pc + 3) L (r.toList ++ rest)) (hcs : cells ≤ R.cells ∧ slots ≤ R.slots) : Go_ p l e R s m args below meth c D cl A nL cells slots Q w pc L st0 := by
  refine go_run (r := r) (rest := rest) (a := As.toArray) (fun H locs ls hP hD hl => ?_) k
  obtain ⟨hx, hb, hml, hown, hts, hK, -⟩ := X
  exact va_runS (As := As) (rest := rest) ⟨hx, hb, hml, hown, hts⟩ hM (cwS n hts (tg_wsS h1 h2 h4 h5) rfl hR.1 hR.2.1 hd hR.2.2) ⟨Pd_blind, fun U hU hW => ⟨rfl, by rw [hU]; exact hP, hD, va_K.moved hW.alike hK, NW_warm hW hN⟩⟩ rfl hn hl.1.1 hst (lv_room hroom) d hcs
/-- into a method, its words the tables' good ones -/
theorem go_in {y : MethodName} {d : Nat} {av : List Value} {maxL : Nat} {ret : Option FieldType} (hy : plainName y.cls = true) (hav : (lg_sl av).length ≤ maxL) (hcat : ∀ q ∈ lv_args 0 av, q.2.category = 1)
    (body : ∀ p e s m args below meth c, Cx_ p l e (rm_d d) s m args below meth c cc maxL y.cls D cl tys TG_ → meth.sig.returnType = ret → meth.name = y.name → NW_ nw s →
      Go_ p l e (rm_d d) s m args below meth c D cl A maxL 0 0 (MQ below (Qd_ D cl A w' r) args s 0 0 A) w 0 (lv_args 0 av) []) : Ct_ l D cl tys A nw y (.code y cc maxL ret :: TG_) (rm_d d) av w w' r :=
  go_enter (cc := cc) (maxL := maxL) (ret := ret) hy rfl hav hcat (fun p e s m args below meth c X hr hn hN => body p e s m args below meth c ⟨X.1, X.2.1, X.2.2.1, X.2.2.2.1, fun w hw => X.2.2.2.2.1 w (List.mem_cons_of_mem _ hw), X.2.2.2.2.2⟩ hr hn hN)
end CALLS_B
end
section
section LP_A
/-- a loop that counts up to N -/
theorem lp_up {P : Nat → Prop} (N : Nat) (h : ∀ j, j ≤ N → (j < N → P (j + 1)) → P j) : ∀ j, j ≤ N → P j := by
  have key : ∀ k j, j + k = N → P j := by
    intro k
    induction k with
    | zero => intro j hj; exact h j (by omega) (fun hlt => by omega)
    | succ k ih => intro j hj; exact h j (by omega) (fun _ => ih (j + 1) (by omega))
  exact fun j hj => key (N - j) j (by omega)
/-- a loop that counts down to nothing -/
theorem lp_dn {P : Nat → Prop} (h : ∀ j, (∀ i, j = i + 1 → P i) → P j) : ∀ j, P j := by
  intro j
  induction j with
  | zero => exact h 0 (fun i e => by omega)
  | succ j ih => exact h (j + 1) (fun i e => by rw [show i = j by omega]; exact ih)
def fl_ (f : Nat → Int32) (v : Int32) (j : Nat) : Nat → Int32 := fun k => if k < j then v else f k
theorem fl_0 (f : Nat → Int32) (v : Int32) : fl_ f v 0 = f := by
  funext k; unfold fl_; rw [if_neg (by omega)]
theorem fl_s (f : Nat → Int32) (v : Int32) (j : Nat) : upd (fl_ f v j) j v = fl_ f v (j + 1) := by
  funext k
  unfold fl_ upd
  by_cases e : k = j
  · rw [if_pos e, if_pos (by omega)]
  · rw [if_neg e]
    dsimp only
    by_cases g : k < j
    · rw [if_pos g, if_pos (by omega)]
    · rw [if_neg g, if_neg (by omega)]
theorem fl_all {f : Nat → Int32} {v : Int32} {N j : Nat} (h : j < N) : fl_ f v N j = v := by unfold fl_; rw [if_pos h]
theorem nI_K {K : Nat} (hK : K < 4) (c : Nat) (hc : c < 100) : nI K = nI c ↔ K = c := nI_eq (by omega) (by omega)
theorem u21_id (ρ : ST_) (f : Nat → Int32) : u2_ (u1_ ρ 24 f) 0 2 (ρ 0 2) = u1_ ρ 24 f := by
  have h : (u1_ ρ 24 f) 0 2 = ρ 0 2 := rfl
  rw [← h, u2_id]
section
variable {p : Program} {l : Launch} {e : Env} {R : Room} {s : State} {m : MethodId} {args : Array Value} {below : List Frame} {meth : Method} {c : Code} {D : va_G} {cl : List vw_C} {A : Nat → Prop} {nL cells slots : Nat} {Q : State → Prop} {w w' : va_W}
variable {cc : ByteArray} {own : String} {tys : List (ClassId × FieldType)} {pc : Nat} {L : List (Nat × Value)} {rest : List Value} {nw : List Cond}
/-- a call that answers v, of a method of its own class's object -/
theorem go_cV (X : Cx_ p l e R s m args below meth c cc nL own D cl tys TG_) (hN : NW_ nw s) {C : String} {Tf : u_T} {Nf ci i a index maxL n : Nat} {y : MethodName} {bytes : ByteArray} {ret : Option FieldType} {rm : Room} {As fs st0 : List Value} {v : Value}
    (hM : Ct_ l D cl tys A nw y (.code y bytes maxL ret :: TG_) rm (.ref a :: As) w w' (some v)) (h1 : Cond.methodLink own index y ∈ TG_) (h2 : Cond.instanceMethod y ∈ TG_) (h3 : Cond.selects C y y ∈ TG_) (h4 : Cond.initialized C ∈ TG_) (h5 : Cond.code y bytes maxL ret ∈ TG_)
    (hd : y.cls = C ∧ y.cls ≠ "java/lang/invoke/MethodHandle" ∧ y.cls ≠ "java/lang/invoke/VarHandle" ∧ (parseMethodDescriptor y.desc).map (fun d => d.parameters.length) = some n) (hR : rm.cells = 0 ∧ rm.slots = 0 ∧ rm.frames + 1 ≤ R.frames ∧ 8 + (maxL + 11) + rm.locals ≤ R.locals)
    (hc : cl[ci]? = some (C, Tf, Nf)) (hw : w[i]? = some (a, .inr (ci, fs))) (hst : st0 = As.reverse ++ .ref a :: rest) (hn : As.length = n) (hroom : (rest.map fun v => v.category).sum ≤ 8) (d : decode cc pc = .ok (.invokevirtual index, 3)) (hcs : cells ≤ R.cells ∧ slots ≤ R.slots)
    (k : Go_ p l e R s m args below meth c D cl A nL cells slots Q w' (pc + 3) L (v :: rest)) : Go_ p l e R s m args below meth c D cl A nL cells slots Q w pc L st0 :=
  go_callV X hN hM h1 h2 h3 h4 h5 hd hR hc hw hst hn hroom d k hcs
theorem go_cVv (X : Cx_ p l e R s m args below meth c cc nL own D cl tys TG_) (hN : NW_ nw s) {C : String} {Tf : u_T} {Nf ci i a index maxL n : Nat} {y : MethodName} {bytes : ByteArray} {ret : Option FieldType} {rm : Room} {As fs st0 : List Value}
    (hM : Ct_ l D cl tys A nw y (.code y bytes maxL ret :: TG_) rm (.ref a :: As) w w' none) (h1 : Cond.methodLink own index y ∈ TG_) (h2 : Cond.instanceMethod y ∈ TG_) (h3 : Cond.selects C y y ∈ TG_) (h4 : Cond.initialized C ∈ TG_) (h5 : Cond.code y bytes maxL ret ∈ TG_)
    (hd : y.cls = C ∧ y.cls ≠ "java/lang/invoke/MethodHandle" ∧ y.cls ≠ "java/lang/invoke/VarHandle" ∧ (parseMethodDescriptor y.desc).map (fun d => d.parameters.length) = some n) (hR : rm.cells = 0 ∧ rm.slots = 0 ∧ rm.frames + 1 ≤ R.frames ∧ 8 + (maxL + 11) + rm.locals ≤ R.locals)
    (hc : cl[ci]? = some (C, Tf, Nf)) (hw : w[i]? = some (a, .inr (ci, fs))) (hst : st0 = As.reverse ++ .ref a :: rest) (hn : As.length = n) (hroom : (rest.map fun v => v.category).sum ≤ 8) (d : decode cc pc = .ok (.invokevirtual index, 3)) (hcs : cells ≤ R.cells ∧ slots ≤ R.slots)
    (k : Go_ p l e R s m args below meth c D cl A nL cells slots Q w' (pc + 3) L rest) : Go_ p l e R s m args below meth c D cl A nL cells slots Q w pc L st0 :=
  go_callV X hN hM h1 h2 h3 h4 h5 hd hR hc hw hst hn hroom d k hcs
end
end LP_A
section LP_B
theorem sh_0 (f : Nat → Int32) : sh_ f 0 = f := by
  funext k; unfold sh_; rw [if_neg (by omega)]
theorem sh_s (f : Nat → Int32) (j : Nat) : upd (sh_ f j) j (sh_ f j (j + 1)) = sh_ f (j + 1) := by
  funext k
  unfold sh_ upd
  by_cases e : k = j
  · subst e
    rw [if_pos rfl]
    show (if k + 1 < k then f (k + 1 + 1) else f (k + 1)) = if k < k + 1 then f (k + 1) else f k
    rw [if_neg (by omega), if_pos (by omega)]
  · rw [if_neg e]
    dsimp only
    by_cases g : k < j
    · rw [if_pos g, if_pos (by omega)]
    · rw [if_neg g, if_neg (by omega)]
theorem ix_and7 (a : Int32) : Ix_ (a &&& 7) 8 (ix_ (a &&& 7)) := ⟨pk_andIn a 3 (by decide) (by decide), rfl⟩
theorem ix_and3 (a : Int32) : Ix_ (a &&& 3) 4 (ix_ (a &&& 3)) := ⟨pk_andIn a 2 (by decide) (by decide), rfl⟩
theorem Ix_le {i : Int32} {N M j : Nat} (h : Ix_ i N j) (hNM : N ≤ M) : Ix_ i M j := by
  have h2 := vp_in_iff.mp h.1
  exact ⟨vp_in_iff.mpr ⟨h2.1, by omega⟩, h.2⟩
/-- a count of one to eight -/
theorem z_pred {z : Int32} (h : 0 ≤ z.toInt ∧ z.toInt ≤ 8) (hz : ¬ z = 0) : ∃ j, j < 8 ∧ z = nI (j + 1) ∧ z - 1 = nI j := by
  rw [iz_eq, iz_0] at hz
  obtain ⟨e, -⟩ := iz_of (x := z) h.1
  have hi := iz_ix z
  obtain ⟨j, hj⟩ : ∃ j, ix_ z = j + 1 := ⟨ix_ z - 1, by omega⟩
  rw [hj] at e
  exact ⟨j, by omega, e, by rw [e, nI_pred]⟩
end LP_B
section LP_C
theorem u12_eq (ρ : ST_) (c i : Nat) (v : Int32) : u1_ ρ c (upd (ρ c) i v) = u2_ ρ c i v := rfl
theorem u21_eq (ρ : ST_) (i : Nat) (v z : Int32) : u2_ (u1_ ρ 24 (upd (ρ 24) i v)) 0 2 z = u2_ (u2_ ρ 24 i v) 0 2 z := rfl
end LP_C
section LP_D
theorem u2_24 (ρ : ST_) (i : Nat) (v : Int32) : u2_ ρ 24 i v = u1_ ρ 24 (upd (ρ 24) i v) := rfl
theorem u11_24 (ρ : ST_) (f g : Nat → Int32) : u1_ (u1_ ρ 24 f) 24 g = u1_ ρ 24 g := by
  funext a
  by_cases h : a = 24
  · rw [h, u1_same, u1_same]
  · rw [u1_ne _ _ h, u1_ne _ _ h, u1_ne _ _ h]
theorem u1_24 (ρ : ST_) (f : Nat → Int32) : (u1_ ρ 24 f) 24 = f := u1_same ρ 24 f
end LP_D
section LP_E
theorem u12_c (ρ : ST_) (v : Int32) (f : Nat → Int32) : u1_ (u2_ ρ 0 2 v) 24 f = u2_ (u1_ ρ 24 f) 0 2 v := by
  funext a
  by_cases h : a = 24
  · rw [h, u1_same, u2_ne _ _ _ (by omega), u1_same]
  · rw [u1_ne _ _ h]
    by_cases h0 : a = 0
    · rw [h0, u2_same, u2_same, u1_ne _ _ (by omega)]
    · rw [u2_ne _ _ _ h0, u2_ne _ _ _ h0, u1_ne _ _ h]
theorem u22_c (ρ : ST_) (v v' : Int32) : u2_ (u2_ ρ 0 2 v) 0 2 v' = u2_ ρ 0 2 v' := by
  funext a j
  rw [u2_at, u2_at, u2_at]
  by_cases h : a = 0 ∧ j = 2
  · rw [if_pos h, if_pos h]
  · rw [if_neg h, if_neg h, if_neg h]
theorem hm_rep0 (K : Nat) (ρ : ST_) : hm_begin K ρ = hm_rep K 0 ρ := by
  unfold hm_begin hm_rep
  exact u12_c ρ 0 _
theorem hm_reps (K j : Nat) (ρ : ST_) : hm_act K (ρ 21 (j + 2)) (ρ 22 (j + 2)) (ρ 23 (j + 2)) (hm_rep K j ρ) = hm_rep K (j + 1) ρ := by
  unfold hm_act
  have h1 : hm_rep K j ρ 24 = (rs_ K (ρ 21) (ρ 22) (ρ 23) j).1 := rfl
  have h2 : hm_rep K j ρ 0 2 = (rs_ K (ρ 21) (ρ 22) (ρ 23) j).2.1 := rfl
  have h3 : rs_ K (ρ 21) (ρ 22) (ρ 23) (j + 1) = pa_ K (ρ 21 (j + 2)) (ρ 22 (j + 2)) (ρ 23 (j + 2)) (rs_ K (ρ 21) (ρ 22) (ρ 23) j).1 (rs_ K (ρ 21) (ρ 22) (ρ 23) j).2.1 := rfl
  rw [h1, h2, ← h3]
  unfold hm_rep
  rw [u12_c, u11_24, u22_c]
theorem hm_repsR (K j : Nat) (ρ : ST_) : hm_actR K (ρ 21 (j + 2)) (ρ 22 (j + 2)) (ρ 23 (j + 2)) (hm_rep K j ρ) = (rs_ K (ρ 21) (ρ 22) (ρ 23) (j + 1)).2.2 := rfl
end LP_E
section LP_F
/-- a counter that goes down: behind j it stands at j - 1 -/
def dn_ : Nat → Int32
  | 0 => -1
  | i + 1 => nI i
theorem dn_p (i : Nat) : nI i + Int32.ofInt (-1) = dn_ i := by
  rw [litm1]
  cases i with
  | zero => decide
  | succ i => exact pk_m1 i
theorem dn_neg {j : Nat} (hj : j ≤ 1000) : dn_ j < 0 ↔ j = 0 := by
  cases j with
  | zero => exact ⟨fun _ => rfl, fun _ => by decide⟩
  | succ i => exact ⟨fun h => absurd h (nI_pos (by omega)), fun h => by omega⟩
theorem hm_free_r (ρ : ST_) : (hm_free ρ).toInt < 32 := by
  unfold hm_free
  rw [fd_ff]
  cases h : ff_ (fun k => decide (ρ 1 k = 0)) 0 32 with
  | none => rw [iz_m]; omega
  | some k =>
    obtain ⟨-, hk, -, -⟩ := ff_some h
    show (nI k).toInt < 32
    rw [iz_nI (by omega)]; omega
/-- what a step of p reads lies in its arrays -/
def Om_ (n : Nat) (ρ : ST_) (p : Nat) : Prop :=
  (-1 ≤ (ρ 10 p).toInt ∧ (ρ 10 p).toInt ≤ 7) ∧ Ix_ (ρ 12 p) 32 (ix_ (ρ 12 p)) ∧ Ix_ (ρ 13 p) 32 (ix_ (ρ 13 p)) ∧ Ix_ (ρ 14 p) 32 (ix_ (ρ 14 p)) ∧
  (ρ 10 p = 1 → Ix_ (ρ 11 p) 5 (ix_ (ρ 11 p)) ∧ Ix_ (ρ 8 (ix_ (ρ 11 p))) 32 (ix_ (ρ 8 (ix_ (ρ 11 p))))) ∧
  (ρ 10 p = 3 → Ix_ (hm_q n ρ p) 5 (ix_ (hm_q n ρ p)) ∧ (0 ≤ ρ 9 (ix_ (hm_q n ρ p)) → Ix_ (ρ 9 (ix_ (hm_q n ρ p))) 32 (ix_ (ρ 9 (ix_ (hm_q n ρ p)))))) ∧
  (ρ 10 p = 5 → Ix_ (hm_k ρ p) 600 (ix_ (hm_k ρ p))) ∧
  (ρ 10 p = 7 → ∃ J, J + 1 < 600 ∧ ρ 2 (ix_ (ρ 12 p)) = nI (J + 1))
theorem st_cases {x : Int32} (h : -1 ≤ x.toInt ∧ x.toInt ≤ 7) : x = -1 ∨ x = 0 ∨ x = 1 ∨ x = 2 ∨ x = 3 ∨ x = 4 ∨ x = 5 ∨ x = 6 ∨ x = 7 := by
  simp only [iz_eq, iz_m, iz_0, iz_1, iz_2, iz_3, iz_4, iz_5, iz_6, iz_7]
  omega
end LP_F
end
section
section M1
set_option maxHeartbeats 4000000 in
set_option maxRecDepth 20000 in
theorem tm_thrown (l : Launch) (D : va_G) (T : Nat → ClassId) (ad : Nat → Nat) (A : Nat → Prop) (nw : List Cond) (K n : Nat) {ρ : ST_} : cm_ l D T ad K n A nw yn_M_thrown (.code yn_M_thrown cd_M_thrown 1 (some .int)) 0 [] ρ ρ (some (.int (ρ 0 0))) := by
  refine go_in (by decide) (Nat.le_of_ble_eq_true rfl) (List.forall_mem_cons.mpr ⟨rfl, fun _ h => nomatch h⟩) ?_
  intro P e s m args below meth c X hr hnm hN
  replace X : Cx_ P l e (rm_d 0) s m args below meth c cd_M_thrown 1 rn_M D cl_ (tys_ T) TG_ := X
  refine go_loc (L' := [(0, .ref (ad 0))]) rfl ?_
  first | refine go_aload_n (i := 0) X rfl rfl dc_M_thrown_0 ?_ | refine go_aloadN_n (i := 0) X rfl rfl dc_M_thrown_0 ?_
  refine gm_get (v := .int (ρ 0 0)) X 0 (by decide) fl_M_99 rfl dc_M_thrown_1 ?_
  exact go_iret X hr dc_M_thrown_4 rfl rfl
set_option maxHeartbeats 4000000 in
set_option maxRecDepth 20000 in
theorem tm_refused (l : Launch) (D : va_G) (T : Nat → ClassId) (ad : Nat → Nat) (A : Nat → Prop) (nw : List Cond) (K n : Nat) {ρ : ST_} {x : Int32} : cm_ l D T ad K n A nw yn_M_refused (.code yn_M_refused cd_M_refused 2 (some .boolean)) 0 [.int x] ρ (u2_ ρ 0 0 x) (some (.int (if 0 < x then 1 else 0))) := by
  refine go_in (by decide) (Nat.le_of_ble_eq_true rfl) (List.forall_mem_cons.mpr ⟨rfl, List.forall_mem_cons.mpr ⟨rfl, fun _ h => nomatch h⟩⟩) ?_
  intro P e s m args below meth c X hr hnm hN
  replace X : Cx_ P l e (rm_d 0) s m args below meth c cd_M_refused 2 rn_M D cl_ (tys_ T) TG_ := X
  refine go_loc (L' := [(0, .ref (ad 0)), (1, .int x)]) rfl ?_
  first | refine go_aload_n (i := 0) X rfl rfl dc_M_refused_0 ?_ | refine go_aloadN_n (i := 0) X rfl rfl dc_M_refused_0 ?_
  refine go_iload_n (i := 1) X rfl rfl dc_M_refused_1 ?_
  refine gm_put X 0 0 (by decide) fl_M_99 rfl (tk_M 0 (by decide)) (mF_s0 _ _ _ _ _) dc_M_refused_2 ?_
  refine go_iload_n (i := 1) X rfl rfl dc_M_refused_5 ?_
  refine go_if_le (tgt := 13) X dc_M_refused_6 (by decide) (fun h6 => ?_) (fun h6 => ?_)
  · refine go_iconst (v := 0) X (by decide) dc_M_refused_13 ?_
    exact go_zret X hr (by decide) dc_M_refused_14 rfl (congrArg some (congrArg Value.int (by (simp only [iz_lt, iz_le, iz_eq, iz_0, iz_1, iz_2, iz_3, iz_4, iz_5, iz_6, iz_7, iz_8, iz_m] at h6 ⊢; repeat' split) <;> first | with_reducible rfl | decide | (exfalso; omega))))
  · refine go_iconst (v := 1) X (by decide) dc_M_refused_9 ?_
    refine go_goto (tgt := 14) X dc_M_refused_10 (by decide) ?_
    exact go_zret X hr (by decide) dc_M_refused_14 rfl (congrArg some (congrArg Value.int (by (simp only [iz_lt, iz_le, iz_eq, iz_0, iz_1, iz_2, iz_3, iz_4, iz_5, iz_6, iz_7, iz_8, iz_m] at h6 ⊢; repeat' split) <;> first | with_reducible rfl | decide | (exfalso; omega))))
set_option maxHeartbeats 4000000 in
set_option maxRecDepth 20000 in
theorem tm_isProcess (l : Launch) (D : va_G) (T : Nat → ClassId) (ad : Nat → Nat) (A : Nat → Prop) (nw : List Cond) (K n : Nat) {ρ : ST_} {x : Int32} : cm_ l D T ad K n A nw yn_M_isProcess (.code yn_M_isProcess cd_M_isProcess 2 (some .boolean)) 0 [.int x] ρ ρ (some (.int (if 0 ≤ x ∧ x < nI n then 1 else 0))) := by
  refine go_in (by decide) (Nat.le_of_ble_eq_true rfl) (List.forall_mem_cons.mpr ⟨rfl, List.forall_mem_cons.mpr ⟨rfl, fun _ h => nomatch h⟩⟩) ?_
  intro P e s m args below meth c X hr hnm hN
  replace X : Cx_ P l e (rm_d 0) s m args below meth c cd_M_isProcess 2 rn_M D cl_ (tys_ T) TG_ := X
  refine go_loc (L' := [(0, .ref (ad 0)), (1, .int x)]) rfl ?_
  refine go_iload_n (i := 1) X rfl rfl dc_M_isProcess_0 ?_
  refine go_if_lt (tgt := 16) X dc_M_isProcess_1 (by decide) (fun h1 => ?_) (fun h1 => ?_)
  · refine go_iconst (v := 0) X (by decide) dc_M_isProcess_16 ?_
    exact go_zret X hr (by decide) dc_M_isProcess_17 rfl (congrArg some (congrArg Value.int (by (simp only [iz_lt, iz_le, iz_eq, iz_0, iz_1, iz_2, iz_3, iz_4, iz_5, iz_6, iz_7, iz_8, iz_m] at h1 ⊢; repeat' split) <;> first | with_reducible rfl | decide | (exfalso; omega))))
  · refine go_iload_n (i := 1) X rfl rfl dc_M_isProcess_4 ?_
    first | refine go_aload_n (i := 0) X rfl rfl dc_M_isProcess_5 ?_ | refine go_aloadN_n (i := 0) X rfl rfl dc_M_isProcess_5 ?_
    refine gm_get X 2 (by decide) fl_M_90 rfl dc_M_isProcess_6 ?_
    refine go_icmp_ge (tgt := 16) X dc_M_isProcess_9 (by decide) (fun h9 => ?_) (fun h9 => ?_)
    · refine go_iconst (v := 0) X (by decide) dc_M_isProcess_16 ?_
      exact go_zret X hr (by decide) dc_M_isProcess_17 rfl (congrArg some (congrArg Value.int (by (simp only [iz_lt, iz_le, iz_eq, iz_0, iz_1, iz_2, iz_3, iz_4, iz_5, iz_6, iz_7, iz_8, iz_m] at h1 h9 ⊢; repeat' split) <;> first | with_reducible rfl | decide | (exfalso; omega))))
    · refine go_iconst (v := 1) X (by decide) dc_M_isProcess_12 ?_
      refine go_goto (tgt := 17) X dc_M_isProcess_13 (by decide) ?_
      exact go_zret X hr (by decide) dc_M_isProcess_17 rfl (congrArg some (congrArg Value.int (by (simp only [iz_lt, iz_le, iz_eq, iz_0, iz_1, iz_2, iz_3, iz_4, iz_5, iz_6, iz_7, iz_8, iz_m] at h1 h9 ⊢; repeat' split) <;> first | with_reducible rfl | decide | (exfalso; omega))))
set_option maxHeartbeats 4000000 in
set_option maxRecDepth 20000 in
theorem tm_look (l : Launch) (D : va_G) (T : Nat → ClassId) (ad : Nat → Nat) (A : Nat → Prop) (nw : List Cond) (K n : Nat) {ρ : ST_} {p : Nat}(hn : n ≤ 5) (hp : Ix_ (nI p) 5 p) (h11 : Ix_ (ρ 11 p) 5 (ix_ (ρ 11 p))) (h8 : Ix_ (ρ 8 (ix_ (ρ 11 p))) 32 (ix_ (ρ 8 (ix_ (ρ 11 p))))) (h13 : Ix_ (ρ 13 p) 32 (ix_ (ρ 13 p))) : cm_ l D T ad K n A nw yn_M_look (.code yn_M_look cd_M_look 3 none) 0 [.int (nI p)] ρ (hm_look n ρ p) none := by
  refine go_in (by decide) (Nat.le_of_ble_eq_true rfl) (List.forall_mem_cons.mpr ⟨rfl, List.forall_mem_cons.mpr ⟨rfl, fun _ h => nomatch h⟩⟩) ?_
  intro P e s m args below meth c X hr hnm hN
  replace X : Cx_ P l e (rm_d 0) s m args below meth c cd_M_look 3 rn_M D cl_ (tys_ T) TG_ := X
  refine go_loc (L' := [(0, .ref (ad 0)), (1, .int (nI p))]) rfl ?_
  first | refine go_aload_n (i := 0) X rfl rfl dc_M_look_0 ?_ | refine go_aloadN_n (i := 0) X rfl rfl dc_M_look_0 ?_
  refine gm_get X 10 (by decide) fl_M_32 rfl dc_M_look_1 ?_
  first | refine go_aload_n (i := 0) X rfl rfl dc_M_look_4 ?_ | refine go_aloadN_n (i := 0) X rfl rfl dc_M_look_4 ?_
  refine gm_get X 13 (by decide) fl_M_41 rfl dc_M_look_5 ?_
  refine go_iload_n (i := 1) X rfl rfl dc_M_look_8 ?_
  refine gm_ld (f := ρ 11) X rfl (by decide) (by assumption) dc_M_look_9 ?_
  refine gm_ld (f := ρ 8) X rfl (by decide) (by assumption) dc_M_look_10 ?_
  refine go_istore_n (i := 2) X rfl (by decide) dc_M_look_11 ?_
  first | refine go_aload_n (i := 0) X rfl rfl dc_M_look_12 ?_ | refine go_aloadN_n (i := 0) X rfl rfl dc_M_look_12 ?_
  refine gm_get X 15 (by decide) fl_M_47 rfl dc_M_look_13 ?_
  refine go_iload_n (i := 1) X rfl rfl dc_M_look_16 ?_
  first | refine go_aload_n (i := 0) X rfl rfl dc_M_look_17 ?_ | refine go_aloadN_n (i := 0) X rfl rfl dc_M_look_17 ?_
  refine gm_get X 4 (by decide) fl_M_13 rfl dc_M_look_18 ?_
  refine go_iload_n (i := 2) X rfl rfl dc_M_look_21 ?_
  refine gm_ld (f := ρ 2) X rfl (by decide) (by assumption) dc_M_look_22 ?_
  first | refine go_aload_n (i := 0) X rfl rfl dc_M_look_23 ?_ | refine go_aloadN_n (i := 0) X rfl rfl dc_M_look_23 ?_
  refine gm_get X 4 (by decide) fl_M_13 rfl dc_M_look_24 ?_
  first | refine go_aload_n (i := 0) X rfl rfl dc_M_look_27 ?_ | refine go_aloadN_n (i := 0) X rfl rfl dc_M_look_27 ?_
  refine gm_get X 15 (by decide) fl_M_47 rfl dc_M_look_28 ?_
  refine go_iload_n (i := 1) X rfl rfl dc_M_look_31 ?_
  refine gm_ld (f := ρ 13) X rfl (by decide) (by assumption) dc_M_look_32 ?_
  refine gm_ld (f := ρ 2) X rfl (by decide) (by assumption) dc_M_look_33 ?_
  refine go_icmp_le (tgt := 41) X dc_M_look_34 (by decide) (fun h34 => ?_) (fun h34 => ?_)
  · first | refine go_aload_n (i := 0) X rfl rfl dc_M_look_41 ?_ | refine go_aloadN_n (i := 0) X rfl rfl dc_M_look_41 ?_
    refine gm_get X 15 (by decide) fl_M_47 rfl dc_M_look_42 ?_
    refine go_iload_n (i := 1) X rfl rfl dc_M_look_45 ?_
    refine gm_ld (f := ρ 13) X rfl (by decide) (by assumption) dc_M_look_46 ?_
    refine gm_st X (by decide) (by assumption) dc_M_look_47 ?_
    first | refine go_aload_n (i := 0) X rfl rfl dc_M_look_48 ?_ | refine go_aloadN_n (i := 0) X rfl rfl dc_M_look_48 ?_
    refine gm_get X 13 (by decide) fl_M_41 rfl dc_M_look_49 ?_
    refine go_iload_n (i := 1) X rfl rfl dc_M_look_52 ?_
    refine go_dup2 X rfl rfl dc_M_look_53 ?_
    refine gm_ld (f := ρ 11) X rfl (by decide) (by assumption) dc_M_look_54 ?_
    refine go_iconst (v := 1) X (by decide) dc_M_look_55 ?_
    refine go_iadd X dc_M_look_56 ?_
    refine gm_st X (by decide) (by assumption) dc_M_look_57 ?_
    first | refine go_aload_n (i := 0) X rfl rfl dc_M_look_58 ?_ | refine go_aloadN_n (i := 0) X rfl rfl dc_M_look_58 ?_
    refine gm_get X 12 (by decide) fl_M_38 rfl dc_M_look_59 ?_
    refine go_iload_n (i := 1) X rfl rfl dc_M_look_62 ?_
    first | refine go_aload_n (i := 0) X rfl rfl dc_M_look_63 ?_ | refine go_aloadN_n (i := 0) X rfl rfl dc_M_look_63 ?_
    refine gm_get X 13 (by decide) fl_M_41 rfl dc_M_look_64 ?_
    refine go_iload_n (i := 1) X rfl rfl dc_M_look_67 ?_
    refine gm_ld (f := upd (ρ 11) p (ρ 11 p + 1)) X rfl (by decide) (by assumption) dc_M_look_68 ?_
    rw [pk_us]
    first | refine go_aload_n (i := 0) X rfl rfl dc_M_look_69 ?_ | refine go_aloadN_n (i := 0) X rfl rfl dc_M_look_69 ?_
    refine gm_get X 2 (by decide) fl_M_90 rfl dc_M_look_70 ?_
    refine go_icmp_ne (tgt := 80) X dc_M_look_73 (by decide) (fun h73 => ?_) (fun h73 => ?_)
    · refine go_iconst (v := 1) X (by decide) dc_M_look_80 ?_
      refine gm_st X (by decide) (by assumption) dc_M_look_81 ?_
      exact go_vret X hr dc_M_look_82 (congrArg (mW_ T ad K n) (by (unfold hm_look; simp only [iz_lt, iz_le, iz_eq, iz_0, iz_1, iz_2, iz_3, iz_4, iz_5, iz_6, iz_7, iz_8, iz_m] at h34 h73 ⊢; repeat' split) <;> first | with_reducible rfl | (exfalso; omega))) rfl
    · refine go_iconst (v := 2) X (by decide) dc_M_look_76 ?_
      refine go_goto (tgt := 81) X dc_M_look_77 (by decide) ?_
      refine gm_st X (by decide) (by assumption) dc_M_look_81 ?_
      exact go_vret X hr dc_M_look_82 (congrArg (mW_ T ad K n) (by (unfold hm_look; simp only [iz_lt, iz_le, iz_eq, iz_0, iz_1, iz_2, iz_3, iz_4, iz_5, iz_6, iz_7, iz_8, iz_m] at h34 h73 ⊢; repeat' split) <;> first | with_reducible rfl | (exfalso; omega))) rfl
  · refine go_iload_n (i := 2) X rfl rfl dc_M_look_37 ?_
    refine go_goto (tgt := 47) X dc_M_look_38 (by decide) ?_
    refine gm_st X (by decide) (by assumption) dc_M_look_47 ?_
    first | refine go_aload_n (i := 0) X rfl rfl dc_M_look_48 ?_ | refine go_aloadN_n (i := 0) X rfl rfl dc_M_look_48 ?_
    refine gm_get X 13 (by decide) fl_M_41 rfl dc_M_look_49 ?_
    refine go_iload_n (i := 1) X rfl rfl dc_M_look_52 ?_
    refine go_dup2 X rfl rfl dc_M_look_53 ?_
    refine gm_ld (f := ρ 11) X rfl (by decide) (by assumption) dc_M_look_54 ?_
    refine go_iconst (v := 1) X (by decide) dc_M_look_55 ?_
    refine go_iadd X dc_M_look_56 ?_
    refine gm_st X (by decide) (by assumption) dc_M_look_57 ?_
    first | refine go_aload_n (i := 0) X rfl rfl dc_M_look_58 ?_ | refine go_aloadN_n (i := 0) X rfl rfl dc_M_look_58 ?_
    refine gm_get X 12 (by decide) fl_M_38 rfl dc_M_look_59 ?_
    refine go_iload_n (i := 1) X rfl rfl dc_M_look_62 ?_
    first | refine go_aload_n (i := 0) X rfl rfl dc_M_look_63 ?_ | refine go_aloadN_n (i := 0) X rfl rfl dc_M_look_63 ?_
    refine gm_get X 13 (by decide) fl_M_41 rfl dc_M_look_64 ?_
    refine go_iload_n (i := 1) X rfl rfl dc_M_look_67 ?_
    refine gm_ld (f := upd (ρ 11) p (ρ 11 p + 1)) X rfl (by decide) (by assumption) dc_M_look_68 ?_
    rw [pk_us]
    first | refine go_aload_n (i := 0) X rfl rfl dc_M_look_69 ?_ | refine go_aloadN_n (i := 0) X rfl rfl dc_M_look_69 ?_
    refine gm_get X 2 (by decide) fl_M_90 rfl dc_M_look_70 ?_
    refine go_icmp_ne (tgt := 80) X dc_M_look_73 (by decide) (fun h73 => ?_) (fun h73 => ?_)
    · refine go_iconst (v := 1) X (by decide) dc_M_look_80 ?_
      refine gm_st X (by decide) (by assumption) dc_M_look_81 ?_
      exact go_vret X hr dc_M_look_82 (congrArg (mW_ T ad K n) (by (unfold hm_look; simp only [iz_lt, iz_le, iz_eq, iz_0, iz_1, iz_2, iz_3, iz_4, iz_5, iz_6, iz_7, iz_8, iz_m] at h34 h73 ⊢; repeat' split) <;> first | with_reducible rfl | (exfalso; omega))) rfl
    · refine go_iconst (v := 2) X (by decide) dc_M_look_76 ?_
      refine go_goto (tgt := 81) X dc_M_look_77 (by decide) ?_
      refine gm_st X (by decide) (by assumption) dc_M_look_81 ?_
      exact go_vret X hr dc_M_look_82 (congrArg (mW_ T ad K n) (by (unfold hm_look; simp only [iz_lt, iz_le, iz_eq, iz_0, iz_1, iz_2, iz_3, iz_4, iz_5, iz_6, iz_7, iz_8, iz_m] at h34 h73 ⊢; repeat' split) <;> first | with_reducible rfl | (exfalso; omega))) rfl
set_option maxHeartbeats 4000000 in
set_option maxRecDepth 20000 in
theorem tm_choose (l : Launch) (D : va_G) (T : Nat → ClassId) (ad : Nat → Nat) (A : Nat → Prop) (nw : List Cond) (K n : Nat) {ρ : ST_} {p : Nat}(hn : n ≤ 5) (hp : Ix_ (nI p) 5 p)(h13 : Ix_ (ρ 13 p) 32 (ix_ (ρ 13 p))) (hz : ¬ nI n = 0) (hq : Ix_ (hm_q n ρ p) 5 (ix_ (hm_q n ρ p))) (h9 : 0 ≤ ρ 9 (ix_ (hm_q n ρ p)) → Ix_ (ρ 9 (ix_ (hm_q n ρ p))) 32 (ix_ (ρ 9 (ix_ (hm_q n ρ p))))) : cm_ l D T ad K n A nw yn_M_choose (.code yn_M_choose cd_M_choose 3 none) 0 [.int (nI p)] ρ (hm_choose n ρ p) none := by
  refine go_in (by decide) (Nat.le_of_ble_eq_true rfl) (List.forall_mem_cons.mpr ⟨rfl, List.forall_mem_cons.mpr ⟨rfl, fun _ h => nomatch h⟩⟩) ?_
  intro P e s m args below meth c X hr hnm hN
  replace X : Cx_ P l e (rm_d 0) s m args below meth c cd_M_choose 3 rn_M D cl_ (tys_ T) TG_ := X
  refine go_loc (L' := [(0, .ref (ad 0)), (1, .int (nI p))]) rfl ?_
  first | refine go_aload_n (i := 0) X rfl rfl dc_M_choose_0 ?_ | refine go_aloadN_n (i := 0) X rfl rfl dc_M_choose_0 ?_
  refine gm_get X 4 (by decide) fl_M_13 rfl dc_M_choose_1 ?_
  first | refine go_aload_n (i := 0) X rfl rfl dc_M_choose_4 ?_ | refine go_aloadN_n (i := 0) X rfl rfl dc_M_choose_4 ?_
  refine gm_get X 15 (by decide) fl_M_47 rfl dc_M_choose_5 ?_
  refine go_iload_n (i := 1) X rfl rfl dc_M_choose_8 ?_
  refine gm_ld (f := ρ 13) X rfl (by decide) (by assumption) dc_M_choose_9 ?_
  refine gm_ld (f := ρ 2) X rfl (by decide) (by assumption) dc_M_choose_10 ?_
  refine go_iconst (v := 1) X (by decide) dc_M_choose_11 ?_
  refine go_iadd X dc_M_choose_12 ?_
  first | refine go_aload_n (i := 0) X rfl rfl dc_M_choose_13 ?_ | refine go_aloadN_n (i := 0) X rfl rfl dc_M_choose_13 ?_
  refine gm_get X 2 (by decide) fl_M_90 rfl dc_M_choose_14 ?_
  refine go_irem X (by assumption) dc_M_choose_17 ?_
  refine go_istore_n (i := 2) X rfl (by decide) dc_M_choose_18 ?_
  first | refine go_aload_n (i := 0) X rfl rfl dc_M_choose_19 ?_ | refine go_aloadN_n (i := 0) X rfl rfl dc_M_choose_19 ?_
  refine gm_get X 16 (by decide) fl_M_50 rfl dc_M_choose_20 ?_
  refine go_iload_n (i := 1) X rfl rfl dc_M_choose_23 ?_
  first | refine go_aload_n (i := 0) X rfl rfl dc_M_choose_24 ?_ | refine go_aloadN_n (i := 0) X rfl rfl dc_M_choose_24 ?_
  refine gm_get X 11 (by decide) fl_M_35 rfl dc_M_choose_25 ?_
  refine go_iload_n (i := 2) X rfl rfl dc_M_choose_28 ?_
  refine gm_ld (f := ρ 9) X rfl (by decide) (by assumption) dc_M_choose_29 ?_
  refine go_if_lt (tgt := 56) X dc_M_choose_30 (by decide) (fun h30 => ?_) (fun h30 => ?_)
  · first | refine go_aload_n (i := 0) X rfl rfl dc_M_choose_56 ?_ | refine go_aloadN_n (i := 0) X rfl rfl dc_M_choose_56 ?_
    refine gm_get X 14 (by decide) fl_M_44 rfl dc_M_choose_57 ?_
    refine go_iload_n (i := 1) X rfl rfl dc_M_choose_60 ?_
    refine gm_ld (f := ρ 12) X rfl (by decide) (by assumption) dc_M_choose_61 ?_
    refine gm_st X (by decide) (by assumption) dc_M_choose_62 ?_
    first | refine go_aload_n (i := 0) X rfl rfl dc_M_choose_63 ?_ | refine go_aloadN_n (i := 0) X rfl rfl dc_M_choose_63 ?_
    refine gm_get X 12 (by decide) fl_M_38 rfl dc_M_choose_64 ?_
    refine go_iload_n (i := 1) X rfl rfl dc_M_choose_67 ?_
    refine go_iconst (v := 4) X (by decide) dc_M_choose_68 ?_
    refine gm_st X (by decide) (by assumption) dc_M_choose_69 ?_
    exact go_vret X hr dc_M_choose_70 (congrArg (mW_ T ad K n) (by (unfold hm_choose; simp only [iz_lt, iz_le, iz_eq, iz_0, iz_1, iz_2, iz_3, iz_4, iz_5, iz_6, iz_7, iz_8, iz_m] at h30 ⊢; repeat' split) <;> first | with_reducible rfl | (exfalso; omega))) rfl
  · first | refine go_aload_n (i := 0) X rfl rfl dc_M_choose_33 ?_ | refine go_aloadN_n (i := 0) X rfl rfl dc_M_choose_33 ?_
    refine gm_get X 4 (by decide) fl_M_13 rfl dc_M_choose_34 ?_
    first | refine go_aload_n (i := 0) X rfl rfl dc_M_choose_37 ?_ | refine go_aloadN_n (i := 0) X rfl rfl dc_M_choose_37 ?_
    refine gm_get X 11 (by decide) fl_M_35 rfl dc_M_choose_38 ?_
    refine go_iload_n (i := 2) X rfl rfl dc_M_choose_41 ?_
    refine gm_ld (f := ρ 9) X rfl (by decide) (by assumption) dc_M_choose_42 ?_
    refine gm_ld (f := ρ 2) X rfl (by decide) (h9 (by rw [iz_le, iz_0]; rw [iz_lt, iz_0] at h30; omega)) dc_M_choose_43 ?_
    refine go_if_ne (tgt := 56) X dc_M_choose_44 (by decide) (fun h44 => ?_) (fun h44 => ?_)
    · first | refine go_aload_n (i := 0) X rfl rfl dc_M_choose_56 ?_ | refine go_aloadN_n (i := 0) X rfl rfl dc_M_choose_56 ?_
      refine gm_get X 14 (by decide) fl_M_44 rfl dc_M_choose_57 ?_
      refine go_iload_n (i := 1) X rfl rfl dc_M_choose_60 ?_
      refine gm_ld (f := ρ 12) X rfl (by decide) (by assumption) dc_M_choose_61 ?_
      refine gm_st X (by decide) (by assumption) dc_M_choose_62 ?_
      first | refine go_aload_n (i := 0) X rfl rfl dc_M_choose_63 ?_ | refine go_aloadN_n (i := 0) X rfl rfl dc_M_choose_63 ?_
      refine gm_get X 12 (by decide) fl_M_38 rfl dc_M_choose_64 ?_
      refine go_iload_n (i := 1) X rfl rfl dc_M_choose_67 ?_
      refine go_iconst (v := 4) X (by decide) dc_M_choose_68 ?_
      refine gm_st X (by decide) (by assumption) dc_M_choose_69 ?_
      exact go_vret X hr dc_M_choose_70 (congrArg (mW_ T ad K n) (by (unfold hm_choose; simp only [iz_lt, iz_le, iz_eq, iz_0, iz_1, iz_2, iz_3, iz_4, iz_5, iz_6, iz_7, iz_8, iz_m] at h30 h44 ⊢; repeat' split) <;> first | with_reducible rfl | (exfalso; omega))) rfl
    · first | refine go_aload_n (i := 0) X rfl rfl dc_M_choose_47 ?_ | refine go_aloadN_n (i := 0) X rfl rfl dc_M_choose_47 ?_
      refine gm_get X 11 (by decide) fl_M_35 rfl dc_M_choose_48 ?_
      refine go_iload_n (i := 2) X rfl rfl dc_M_choose_51 ?_
      refine gm_ld (f := ρ 9) X rfl (by decide) (by assumption) dc_M_choose_52 ?_
      refine go_goto (tgt := 62) X dc_M_choose_53 (by decide) ?_
      refine gm_st X (by decide) (by assumption) dc_M_choose_62 ?_
      first | refine go_aload_n (i := 0) X rfl rfl dc_M_choose_63 ?_ | refine go_aloadN_n (i := 0) X rfl rfl dc_M_choose_63 ?_
      refine gm_get X 12 (by decide) fl_M_38 rfl dc_M_choose_64 ?_
      refine go_iload_n (i := 1) X rfl rfl dc_M_choose_67 ?_
      refine go_iconst (v := 4) X (by decide) dc_M_choose_68 ?_
      refine gm_st X (by decide) (by assumption) dc_M_choose_69 ?_
      exact go_vret X hr dc_M_choose_70 (congrArg (mW_ T ad K n) (by (unfold hm_choose; simp only [iz_lt, iz_le, iz_eq, iz_0, iz_1, iz_2, iz_3, iz_4, iz_5, iz_6, iz_7, iz_8, iz_m] at h30 h44 ⊢; repeat' split) <;> first | with_reducible rfl | (exfalso; omega))) rfl
set_option maxHeartbeats 4000000 in
set_option maxRecDepth 20000 in
theorem tm_propose (l : Launch) (D : va_G) (T : Nat → ClassId) (ad : Nat → Nat) (A : Nat → Prop) (nw : List Cond) (K n : Nat) {ρ : ST_} {p : Nat}(hn : n ≤ 5) (hp : Ix_ (nI p) 5 p)(h13 : Ix_ (ρ 13 p) 32 (ix_ (ρ 13 p))) : cm_ l D T ad K n A nw yn_M_propose (.code yn_M_propose cd_M_propose 3 none) 0 [.int (nI p)] ρ (hm_prop ρ p) none := by
  refine go_in (by decide) (Nat.le_of_ble_eq_true rfl) (List.forall_mem_cons.mpr ⟨rfl, List.forall_mem_cons.mpr ⟨rfl, fun _ h => nomatch h⟩⟩) ?_
  intro P e s m args below meth c X hr hnm hN
  replace X : Cx_ P l e (rm_d 0) s m args below meth c cd_M_propose 3 rn_M D cl_ (tys_ T) TG_ := X
  refine go_loc (L' := [(0, .ref (ad 0)), (1, .int (nI p))]) rfl ?_
  first | refine go_aload_n (i := 0) X rfl rfl dc_M_propose_0 ?_ | refine go_aloadN_n (i := 0) X rfl rfl dc_M_propose_0 ?_
  refine gm_get X 15 (by decide) fl_M_47 rfl dc_M_propose_1 ?_
  refine go_iload_n (i := 1) X rfl rfl dc_M_propose_4 ?_
  refine gm_ld (f := ρ 13) X rfl (by decide) (by assumption) dc_M_propose_5 ?_
  refine go_istore_n (i := 2) X rfl (by decide) dc_M_propose_6 ?_
  first | refine go_aload_n (i := 0) X rfl rfl dc_M_propose_7 ?_ | refine go_aloadN_n (i := 0) X rfl rfl dc_M_propose_7 ?_
  refine gm_get X 5 (by decide) fl_M_17 rfl dc_M_propose_8 ?_
  refine go_iload_n (i := 2) X rfl rfl dc_M_propose_11 ?_
  first | refine go_aload_n (i := 0) X rfl rfl dc_M_propose_12 ?_ | refine go_aloadN_n (i := 0) X rfl rfl dc_M_propose_12 ?_
  refine gm_get X 5 (by decide) fl_M_17 rfl dc_M_propose_13 ?_
  refine go_iload_n (i := 2) X rfl rfl dc_M_propose_16 ?_
  refine gm_ld (f := ρ 3) X rfl (by decide) (by assumption) dc_M_propose_17 ?_
  refine go_if_ge (tgt := 30) X dc_M_propose_18 (by decide) (fun h18 => ?_) (fun h18 => ?_)
  · first | refine go_aload_n (i := 0) X rfl rfl dc_M_propose_30 ?_ | refine go_aloadN_n (i := 0) X rfl rfl dc_M_propose_30 ?_
    refine gm_get X 5 (by decide) fl_M_17 rfl dc_M_propose_31 ?_
    refine go_iload_n (i := 2) X rfl rfl dc_M_propose_34 ?_
    refine gm_ld (f := ρ 3) X rfl (by decide) (by assumption) dc_M_propose_35 ?_
    refine gm_st X (by decide) (by assumption) dc_M_propose_36 ?_
    first | refine go_aload_n (i := 0) X rfl rfl dc_M_propose_37 ?_ | refine go_aloadN_n (i := 0) X rfl rfl dc_M_propose_37 ?_
    refine gm_get X 16 (by decide) fl_M_50 rfl dc_M_propose_38 ?_
    refine go_iload_n (i := 1) X rfl rfl dc_M_propose_41 ?_
    first | refine go_aload_n (i := 0) X rfl rfl dc_M_propose_42 ?_ | refine go_aloadN_n (i := 0) X rfl rfl dc_M_propose_42 ?_
    refine gm_get X 5 (by decide) fl_M_17 rfl dc_M_propose_43 ?_
    refine go_iload_n (i := 2) X rfl rfl dc_M_propose_46 ?_
    refine gm_ld X rfl (by decide) (by assumption) dc_M_propose_47 ?_
    refine gm_st X (by decide) (by assumption) dc_M_propose_48 ?_
    first | refine go_aload_n (i := 0) X rfl rfl dc_M_propose_49 ?_ | refine go_aloadN_n (i := 0) X rfl rfl dc_M_propose_49 ?_
    refine gm_get X 12 (by decide) fl_M_38 rfl dc_M_propose_50 ?_
    refine go_iload_n (i := 1) X rfl rfl dc_M_propose_53 ?_
    refine go_iconst (v := 5) X (by decide) dc_M_propose_54 ?_
    refine gm_st X (by decide) (by assumption) dc_M_propose_55 ?_
    exact go_vret X hr dc_M_propose_56 (congrArg (mW_ T ad K n) (by (unfold hm_prop hm_prop1; simp only [iz_lt, iz_le, iz_eq, iz_0, iz_1, iz_2, iz_3, iz_4, iz_5, iz_6, iz_7, iz_8, iz_m] at h18 ⊢; repeat' split) <;> first | with_reducible rfl | (exfalso; omega))) rfl
  · first | refine go_aload_n (i := 0) X rfl rfl dc_M_propose_21 ?_ | refine go_aloadN_n (i := 0) X rfl rfl dc_M_propose_21 ?_
    refine gm_get X 16 (by decide) fl_M_50 rfl dc_M_propose_22 ?_
    refine go_iload_n (i := 1) X rfl rfl dc_M_propose_25 ?_
    refine gm_ld (f := ρ 14) X rfl (by decide) (by assumption) dc_M_propose_26 ?_
    refine go_goto (tgt := 36) X dc_M_propose_27 (by decide) ?_
    refine gm_st X (by decide) (by assumption) dc_M_propose_36 ?_
    first | refine go_aload_n (i := 0) X rfl rfl dc_M_propose_37 ?_ | refine go_aloadN_n (i := 0) X rfl rfl dc_M_propose_37 ?_
    refine gm_get X 16 (by decide) fl_M_50 rfl dc_M_propose_38 ?_
    refine go_iload_n (i := 1) X rfl rfl dc_M_propose_41 ?_
    first | refine go_aload_n (i := 0) X rfl rfl dc_M_propose_42 ?_ | refine go_aloadN_n (i := 0) X rfl rfl dc_M_propose_42 ?_
    refine gm_get X 5 (by decide) fl_M_17 rfl dc_M_propose_43 ?_
    refine go_iload_n (i := 2) X rfl rfl dc_M_propose_46 ?_
    refine gm_ld X rfl (by decide) (by assumption) dc_M_propose_47 ?_
    refine gm_st X (by decide) (by assumption) dc_M_propose_48 ?_
    first | refine go_aload_n (i := 0) X rfl rfl dc_M_propose_49 ?_ | refine go_aloadN_n (i := 0) X rfl rfl dc_M_propose_49 ?_
    refine gm_get X 12 (by decide) fl_M_38 rfl dc_M_propose_50 ?_
    refine go_iload_n (i := 1) X rfl rfl dc_M_propose_53 ?_
    refine go_iconst (v := 5) X (by decide) dc_M_propose_54 ?_
    refine gm_st X (by decide) (by assumption) dc_M_propose_55 ?_
    exact go_vret X hr dc_M_propose_56 (congrArg (mW_ T ad K n) (by (unfold hm_prop hm_prop1; simp only [iz_lt, iz_le, iz_eq, iz_0, iz_1, iz_2, iz_3, iz_4, iz_5, iz_6, iz_7, iz_8, iz_m] at h18 ⊢; repeat' split) <;> first | with_reducible rfl | (exfalso; omega))) rfl
set_option maxHeartbeats 4000000 in
set_option maxRecDepth 20000 in
theorem tm_give (l : Launch) (D : va_G) (T : Nat → ClassId) (ad : Nat → Nat) (A : Nat → Prop) (nw : List Cond) (K n : Nat) {ρ : ST_} {p : Nat}(hn : n ≤ 5) (hp : Ix_ (nI p) 5 p)(h13 : Ix_ (ρ 13 p) 32 (ix_ (ρ 13 p))) (h14 : Ix_ (ρ 14 p) 32 (ix_ (ρ 14 p))) (hk : Ix_ (hm_k ρ p) 600 (ix_ (hm_k ρ p))) : cm_ l D T ad K n A nw yn_M_give (.code yn_M_give cd_M_give 4 none) 0 [.int (nI p)] ρ (hm_give ρ p) none := by
  have l21 : lm_ 21 = 600 := by decide
  have l22 : lm_ 22 = 600 := by decide
  have l23 : lm_ 23 = 600 := by decide
  have k21 : Ix_ (hm_k ρ p) (lm_ 21) (ix_ (hm_k ρ p)) := by rw [l21]; exact hk
  have k22 : Ix_ (hm_k ρ p) (lm_ 22) (ix_ (hm_k ρ p)) := by rw [l22]; exact hk
  have k23 : Ix_ (hm_k ρ p) (lm_ 23) (ix_ (hm_k ρ p)) := by rw [l23]; exact hk
  clear hk l21 l22 l23
  refine go_in (by decide) (Nat.le_of_ble_eq_true rfl) (List.forall_mem_cons.mpr ⟨rfl, List.forall_mem_cons.mpr ⟨rfl, fun _ h => nomatch h⟩⟩) ?_
  intro P e s m args below meth c X hr hnm hN
  replace X : Cx_ P l e (rm_d 0) s m args below meth c cd_M_give 4 rn_M D cl_ (tys_ T) TG_ := X
  refine go_loc (L' := [(0, .ref (ad 0)), (1, .int (nI p))]) rfl ?_
  first | refine go_aload_n (i := 0) X rfl rfl dc_M_give_0 ?_ | refine go_aloadN_n (i := 0) X rfl rfl dc_M_give_0 ?_
  refine gm_get X 16 (by decide) fl_M_50 rfl dc_M_give_1 ?_
  refine go_iload_n (i := 1) X rfl rfl dc_M_give_4 ?_
  refine gm_ld (f := ρ 14) X rfl (by decide) (by assumption) dc_M_give_5 ?_
  refine go_istore_n (i := 2) X rfl (by decide) dc_M_give_6 ?_
  first | refine go_aload_n (i := 0) X rfl rfl dc_M_give_7 ?_ | refine go_aloadN_n (i := 0) X rfl rfl dc_M_give_7 ?_
  refine gm_get X 4 (by decide) fl_M_13 rfl dc_M_give_8 ?_
  first | refine go_aload_n (i := 0) X rfl rfl dc_M_give_11 ?_ | refine go_aloadN_n (i := 0) X rfl rfl dc_M_give_11 ?_
  refine gm_get X 15 (by decide) fl_M_47 rfl dc_M_give_12 ?_
  refine go_iload_n (i := 1) X rfl rfl dc_M_give_15 ?_
  refine gm_ld (f := ρ 13) X rfl (by decide) (by assumption) dc_M_give_16 ?_
  refine gm_ld (f := ρ 2) X rfl (by decide) (by assumption) dc_M_give_17 ?_
  refine go_iconst (v := 1) X (by decide) dc_M_give_18 ?_
  refine go_iadd X dc_M_give_19 ?_
  refine go_istore_n (i := 3) X rfl (by decide) dc_M_give_20 ?_
  first | refine go_aload_n (i := 0) X rfl rfl dc_M_give_21 ?_ | refine go_aloadN_n (i := 0) X rfl rfl dc_M_give_21 ?_
  refine gm_get X 4 (by decide) fl_M_13 rfl dc_M_give_22 ?_
  refine go_iload_n (i := 2) X rfl rfl dc_M_give_25 ?_
  refine go_iload_n (i := 3) X rfl rfl dc_M_give_26 ?_
  refine gm_st X (by decide) (by assumption) dc_M_give_27 ?_
  first | refine go_aload_n (i := 0) X rfl rfl dc_M_give_28 ?_ | refine go_aloadN_n (i := 0) X rfl rfl dc_M_give_28 ?_
  refine gm_get X 24 (by decide) fl_M_71 rfl dc_M_give_29 ?_
  refine go_iload_n (i := 3) X rfl rfl dc_M_give_32 ?_
  first | refine go_aload_n (i := 0) X rfl rfl dc_M_give_33 ?_ | refine go_aloadN_n (i := 0) X rfl rfl dc_M_give_33 ?_
  refine gm_get X 7 (by decide) fl_M_23 rfl dc_M_give_34 ?_
  refine go_iload_n (i := 2) X rfl rfl dc_M_give_37 ?_
  refine gm_ld (f := ρ 5) X rfl (by decide) (by assumption) dc_M_give_38 ?_
  refine gm_st X (by decide) (by assumption) dc_M_give_39 ?_
  first | refine go_aload_n (i := 0) X rfl rfl dc_M_give_40 ?_ | refine go_aloadN_n (i := 0) X rfl rfl dc_M_give_40 ?_
  refine gm_get X 25 (by decide) fl_M_74 rfl dc_M_give_41 ?_
  refine go_iload_n (i := 3) X rfl rfl dc_M_give_44 ?_
  first | refine go_aload_n (i := 0) X rfl rfl dc_M_give_45 ?_ | refine go_aloadN_n (i := 0) X rfl rfl dc_M_give_45 ?_
  refine gm_get X 8 (by decide) fl_M_26 rfl dc_M_give_46 ?_
  refine go_iload_n (i := 2) X rfl rfl dc_M_give_49 ?_
  refine gm_ld (f := ρ 6) X rfl (by decide) (by assumption) dc_M_give_50 ?_
  refine gm_st X (by decide) (by assumption) dc_M_give_51 ?_
  first | refine go_aload_n (i := 0) X rfl rfl dc_M_give_52 ?_ | refine go_aloadN_n (i := 0) X rfl rfl dc_M_give_52 ?_
  refine gm_get X 26 (by decide) fl_M_77 rfl dc_M_give_53 ?_
  refine go_iload_n (i := 3) X rfl rfl dc_M_give_56 ?_
  first | refine go_aload_n (i := 0) X rfl rfl dc_M_give_57 ?_ | refine go_aloadN_n (i := 0) X rfl rfl dc_M_give_57 ?_
  refine gm_get X 9 (by decide) fl_M_29 rfl dc_M_give_58 ?_
  refine go_iload_n (i := 2) X rfl rfl dc_M_give_61 ?_
  refine gm_ld (f := ρ 7) X rfl (by decide) (by assumption) dc_M_give_62 ?_
  refine gm_st X (by decide) (by assumption) dc_M_give_63 ?_
  first | refine go_aload_n (i := 0) X rfl rfl dc_M_give_64 ?_ | refine go_aloadN_n (i := 0) X rfl rfl dc_M_give_64 ?_
  refine go_iload_n (i := 3) X rfl rfl dc_M_give_65 ?_
  first | refine go_aload_n (i := 0) X rfl rfl dc_M_give_66 ?_ | refine go_aloadN_n (i := 0) X rfl rfl dc_M_give_66 ?_
  refine gm_get (v := .int (ρ 0 1)) X 23 (by decide) fl_M_93 rfl dc_M_give_67 ?_
  refine go_icmp_le (tgt := 77) X dc_M_give_70 (by decide) (fun h70 => ?_) (fun h70 => ?_)
  · first | refine go_aload_n (i := 0) X rfl rfl dc_M_give_77 ?_ | refine go_aloadN_n (i := 0) X rfl rfl dc_M_give_77 ?_
    refine gm_get (v := .int (ρ 0 1)) X 23 (by decide) fl_M_93 rfl dc_M_give_78 ?_
    refine gm_put X 23 1 (by decide) fl_M_93 rfl (tk_M 23 (by decide)) (mF_s1 _ _ _ _ _) dc_M_give_81 ?_
    first | refine go_aload_n (i := 0) X rfl rfl dc_M_give_84 ?_ | refine go_aloadN_n (i := 0) X rfl rfl dc_M_give_84 ?_
    refine gm_get X 12 (by decide) fl_M_38 rfl dc_M_give_85 ?_
    refine go_iload_n (i := 1) X rfl rfl dc_M_give_88 ?_
    refine go_bipush (v := 6) X (by decide) dc_M_give_89 ?_
    refine gm_st X (by decide) (by assumption) dc_M_give_91 ?_
    exact go_vret X hr dc_M_give_92 (congrArg (mW_ T ad K n) (by (unfold hm_give hm_k; simp only [iz_lt, iz_le, iz_eq, iz_0, iz_1, iz_2, iz_3, iz_4, iz_5, iz_6, iz_7, iz_8, iz_m] at h70 ⊢; repeat' split) <;> first | with_reducible rfl | (exfalso; omega))) rfl
  · refine go_iload_n (i := 3) X rfl rfl dc_M_give_73 ?_
    refine go_goto (tgt := 81) X dc_M_give_74 (by decide) ?_
    refine gm_put X 23 1 (by decide) fl_M_93 rfl (tk_M 23 (by decide)) (mF_s1 _ _ _ _ _) dc_M_give_81 ?_
    first | refine go_aload_n (i := 0) X rfl rfl dc_M_give_84 ?_ | refine go_aloadN_n (i := 0) X rfl rfl dc_M_give_84 ?_
    refine gm_get X 12 (by decide) fl_M_38 rfl dc_M_give_85 ?_
    refine go_iload_n (i := 1) X rfl rfl dc_M_give_88 ?_
    refine go_bipush (v := 6) X (by decide) dc_M_give_89 ?_
    refine gm_st X (by decide) (by assumption) dc_M_give_91 ?_
    exact go_vret X hr dc_M_give_92 (congrArg (mW_ T ad K n) (by (unfold hm_give hm_k; simp only [iz_lt, iz_le, iz_eq, iz_0, iz_1, iz_2, iz_3, iz_4, iz_5, iz_6, iz_7, iz_8, iz_m] at h70 ⊢; repeat' split) <;> first | with_reducible rfl | (exfalso; omega))) rfl
set_option maxHeartbeats 4000000 in
set_option maxRecDepth 20000 in
theorem tm_end (l : Launch) (D : va_G) (T : Nat → ClassId) (ad : Nat → Nat) (A : Nat → Prop) (nw : List Cond) (K n : Nat) {ρ : ST_} : cm_ l D T ad K n A nw yn_M_end (.code yn_M_end cd_M_end 1 (some .int)) 0 [] ρ (u2_ ρ 0 0 0) (some (.int (ρ 0 1))) := by
  refine go_in (by decide) (Nat.le_of_ble_eq_true rfl) (List.forall_mem_cons.mpr ⟨rfl, fun _ h => nomatch h⟩) ?_
  intro P e s m args below meth c X hr hnm hN
  replace X : Cx_ P l e (rm_d 0) s m args below meth c cd_M_end 1 rn_M D cl_ (tys_ T) TG_ := X
  refine go_loc (L' := [(0, .ref (ad 0))]) rfl ?_
  first | refine go_aload_n (i := 0) X rfl rfl dc_M_end_0 ?_ | refine go_aloadN_n (i := 0) X rfl rfl dc_M_end_0 ?_
  refine go_iconst (v := 0) X (by decide) dc_M_end_1 ?_
  refine gm_put X 0 0 (by decide) fl_M_99 rfl (tk_M 0 (by decide)) (mF_s0 _ _ _ _ _) dc_M_end_2 ?_
  first | refine go_aload_n (i := 0) X rfl rfl dc_M_end_5 ?_ | refine go_aloadN_n (i := 0) X rfl rfl dc_M_end_5 ?_
  refine gm_get (v := .int (ρ 0 1)) X 23 (by decide) fl_M_93 rfl dc_M_end_6 ?_
  exact go_iret X hr dc_M_end_9 rfl rfl
end M1
end
section
section M2
set_option maxHeartbeats 4000000 in
set_option maxRecDepth 20000 in
theorem tm_begin (l : Launch) (D : va_G) (T : Nat → ClassId) (ad : Nat → Nat) (A : Nat → Prop) (nw : List Cond) (K n : Nat) {ρ : ST_} (hK : K < 4) : cm_ l D T ad K n A nw yn_M_begin (.code yn_M_begin cd_M_begin 2 none) 0 [] ρ (hm_begin K ρ) none := by
  refine go_in (by decide) (Nat.le_of_ble_eq_true rfl) (List.forall_mem_cons.mpr ⟨rfl, fun _ h => nomatch h⟩) ?_
  intro P e s m args below meth c X hr hnm hN
  replace X : Cx_ P l e (rm_d 0) s m args below meth c cd_M_begin 2 rn_M D cl_ (tys_ T) TG_ := X
  refine go_loc (L' := [(0, .ref (ad 0))]) rfl ?_
  first | refine go_aload_n (i := 0) X rfl rfl dc_M_begin_0 ?_ | refine go_aloadN_n (i := 0) X rfl rfl dc_M_begin_0 ?_
  refine go_iconst (v := 0) X (by decide) dc_M_begin_1 ?_
  refine gm_put X 28 2 (by decide) fl_M_102 rfl (tk_M 28 (by decide)) (mF_s2 _ _ _ _ _) dc_M_begin_2 ?_
  refine go_iconst (v := nI 0) X (by decide) dc_M_begin_5 ?_
  refine go_istore_n (i := 1) X rfl (by decide) dc_M_begin_6 ?_
  refine go_loc (L' := [(0, .ref (ad 0)), (1, .int (nI 0))]) rfl ?_
  refine go_eqw (w' := mW_ T ad K n (u1_ (u2_ ρ 0 2 0) 24 (fl_ (ρ 24) (pi_ K) 0))) (congrArg _ (by rw [fl_0]; exact (u1_id (u2_ ρ 0 2 0) 24).symm)) ?_
  refine (lp_up (P := fun j => Go_ P l e (rm_d 0) s m args below meth c D cl_ A 2 0 0 _ (mW_ T ad K n (u1_ (u2_ ρ 0 2 0) 24 (fl_ (ρ 24) (pi_ K) j))) 7 [(0, .ref (ad 0)), (1, .int (nI j))] []) 8 (fun j hj ih => ?_)) 0 (Nat.zero_le _)
  refine go_iload_n (i := 1) X rfl rfl dc_M_begin_7 ?_
  refine go_bipush (v := 8) X (by decide) dc_M_begin_8 ?_
  refine go_icmp_ge (tgt := 39) X dc_M_begin_10 (by decide) (fun h10 => ?_) (fun h10 => ?_)
  · have e8 : j = 8 := by rw [iz_le, iz_8, iz_nI (by omega)] at h10; omega
    subst e8
    refine gm_arr (by decide) (fun i hi => fl_all hi) ?_
    exact go_vret X hr dc_M_begin_39 rfl rfl
  · have hlt : j < 8 := by rw [iz_le, iz_8, iz_nI (by omega)] at h10; omega
    have hx : Ix_ (nI j) 8 j := Ix_n hlt (by decide)
    first | refine go_aload_n (i := 0) X rfl rfl dc_M_begin_13 ?_ | refine go_aloadN_n (i := 0) X rfl rfl dc_M_begin_13 ?_
    refine gm_get X 27 (by decide) fl_M_80 rfl dc_M_begin_14 ?_
    refine go_iload_n (i := 1) X rfl rfl dc_M_begin_17 ?_
    first | refine go_aload_n (i := 0) X rfl rfl dc_M_begin_18 ?_ | refine go_aloadN_n (i := 0) X rfl rfl dc_M_begin_18 ?_
    refine gm_get X 1 (by decide) fl_M_86 rfl dc_M_begin_19 ?_
    refine go_iconst (v := 3) X (by decide) dc_M_begin_22 ?_
    refine go_icmp_ne (tgt := 31) X dc_M_begin_23 (by decide) (fun h23 => ?_) (fun h23 => ?_)
    · have hpi : pi_ K = 0 := by unfold pi_; rw [if_neg (fun q => h23 (by rw [q]; decide))]
      refine go_iconst (v := 0) X (by decide) dc_M_begin_31 ?_
      refine gm_st X (by decide) (by assumption) dc_M_begin_32 ?_
      refine go_iinc (i := 1) (v := nI (j + 1)) X rfl (by rw [lit1]; exact nI_1 j) (by decide) dc_M_begin_33 ?_
      refine go_goto (tgt := 7) X dc_M_begin_36 (by decide) ?_
      refine go_loc (L' := [(0, .ref (ad 0)), (1, .int (nI (j + 1)))]) rfl ?_
      refine go_eqw (w' := mW_ T ad K n (u1_ (u2_ ρ 0 2 0) 24 (fl_ (ρ 24) (pi_ K) (j + 1)))) (congrArg _ (by rw [u12_id]; exact congrArg (u1_ (u2_ ρ 0 2 0) 24) (by rw [← fl_s, hpi]))) ?_
      exact ih (by omega)
    · have hpi : pi_ K = 100 := by unfold pi_; rw [if_pos ((nI_K hK 3 (by decide)).mp h23)]
      refine go_bipush (v := 100) X (by decide) dc_M_begin_26 ?_
      refine go_goto (tgt := 32) X dc_M_begin_28 (by decide) ?_
      refine gm_st X (by decide) (by assumption) dc_M_begin_32 ?_
      refine go_iinc (i := 1) (v := nI (j + 1)) X rfl (by rw [lit1]; exact nI_1 j) (by decide) dc_M_begin_33 ?_
      refine go_goto (tgt := 7) X dc_M_begin_36 (by decide) ?_
      refine go_loc (L' := [(0, .ref (ad 0)), (1, .int (nI (j + 1)))]) rfl ?_
      refine go_eqw (w' := mW_ T ad K n (u1_ (u2_ ρ 0 2 0) 24 (fl_ (ρ 24) (pi_ K) (j + 1)))) (congrArg _ (by rw [u12_id]; exact congrArg (u1_ (u2_ ρ 0 2 0) 24) (by rw [← fl_s, hpi]))) ?_
      exact ih (by omega)
set_option maxHeartbeats 4000000 in
set_option maxRecDepth 20000 in
theorem tm_table (l : Launch) (D : va_G) (T : Nat → ClassId) (ad : Nat → Nat) (A : Nat → Prop) (nw : List Cond) (K n : Nat) {ρ : ST_} {op a b : Int32} : cm_ l D T ad K n A nw yn_M_table (.code yn_M_table cd_M_table 6 (some .int)) 0 [.int op, .int a, .int b] ρ (u2_ (u1_ ρ 24 (pt_ op a b (ρ 24) (ρ 0 2)).1) 0 2 (pt_ op a b (ρ 24) (ρ 0 2)).2.1) (some (.int (pt_ op a b (ρ 24) (ρ 0 2)).2.2)) := by
  refine go_in (by decide) (Nat.le_of_ble_eq_true rfl) (List.forall_mem_cons.mpr ⟨rfl, List.forall_mem_cons.mpr ⟨rfl, List.forall_mem_cons.mpr ⟨rfl, List.forall_mem_cons.mpr ⟨rfl, fun _ h => nomatch h⟩⟩⟩⟩) ?_
  intro P e s m args below meth c X hr hnm hN
  replace X : Cx_ P l e (rm_d 0) s m args below meth c cd_M_table 6 rn_M D cl_ (tys_ T) TG_ := X
  refine go_loc (L' := [(0, .ref (ad 0)), (1, .int op), (2, .int a), (3, .int b)]) rfl ?_
  refine go_iconst (v := 0) X (by decide) dc_M_table_0 ?_
  refine go_istore (i := 4) X (by decide) dc_M_table_1 ?_
  refine go_iconst (v := nI 0) X (by decide) dc_M_table_3 ?_
  refine go_istore (i := 5) X (by decide) dc_M_table_4 ?_
  refine go_loc (L' := [(0, .ref (ad 0)), (1, .int op), (2, .int a), (3, .int b), (4, .int (sm_ (ρ 24) 0)), (5, .int (nI 0))]) rfl ?_
  refine (lp_up (P := fun j => Go_ P l e (rm_d 0) s m args below meth c D cl_ A 6 0 0 _ (mW_ T ad K n (ρ)) 6 [(0, .ref (ad 0)), (1, .int op), (2, .int a), (3, .int b), (4, .int (sm_ (ρ 24) j)), (5, .int (nI j))] []) 8 (fun j hj ih => ?_)) 0 (Nat.zero_le _)
  refine go_iload (i := 5) X rfl dc_M_table_6 ?_
  refine go_bipush (v := 8) X (by decide) dc_M_table_8 ?_
  refine go_icmp_ge (tgt := 31) X dc_M_table_10 (by decide) (fun h10 => ?_) (fun h10 => ?_)
  · have e8 : j = 8 := by rw [iz_le, iz_8, iz_nI (by omega)] at h10; omega
    subst e8
    have h7 := ix_and7 a
    first | refine go_aload_n (i := 0) X rfl rfl dc_M_table_31 ?_ | refine go_aloadN_n (i := 0) X rfl rfl dc_M_table_31 ?_
    refine gm_get X 27 (by decide) fl_M_80 rfl dc_M_table_32 ?_
    refine go_iload_n (i := 2) X rfl rfl dc_M_table_35 ?_
    refine go_bipush (v := 7) X (by decide) dc_M_table_36 ?_
    refine go_iand X dc_M_table_38 ?_
    refine gm_ld (f := ρ 24) X rfl (by decide) (by assumption) dc_M_table_39 ?_
    refine go_istore (i := 5) X (by decide) dc_M_table_40 ?_
    refine go_iload_n (i := 1) X rfl rfl dc_M_table_42 ?_
    refine go_if_ne (tgt := 56) X dc_M_table_43 (by decide) (fun h43 => ?_) (fun h43 => ?_)
    · refine go_iload_n (i := 1) X rfl rfl dc_M_table_56 ?_
      refine go_iconst (v := 2) X (by decide) dc_M_table_57 ?_
      refine go_icmp_ne (tgt := 66) X dc_M_table_58 (by decide) (fun h58 => ?_) (fun h58 => ?_)
      · refine go_iload (i := 5) X rfl dc_M_table_66 ?_
        exact go_iret X hr dc_M_table_68 (congrArg (mW_ T ad K n) (by unfold pt_; (repeat' split) <;> (try dsimp only) <;> first | with_reducible rfl | (simp only [u2_24, u11_24, u1_24, u21_id, u1_id, u2_id]; done) | (exfalso; (try clear ih); (simp only [iz_lt, iz_le, iz_eq, iz_0, iz_1, iz_2, iz_3, iz_4, iz_5, iz_6, iz_7, iz_8, iz_m] at *) <;> omega))) (congrArg some (congrArg Value.int (by unfold pt_; (repeat' split) <;> (try dsimp only) <;> first | with_reducible rfl | (exfalso; (try clear ih); (simp only [iz_lt, iz_le, iz_eq, iz_0, iz_1, iz_2, iz_3, iz_4, iz_5, iz_6, iz_7, iz_8, iz_m] at *) <;> omega))))
      · refine go_iload (i := 4) X rfl dc_M_table_61 ?_
        refine go_goto (tgt := 68) X dc_M_table_63 (by decide) ?_
        exact go_iret X hr dc_M_table_68 (congrArg (mW_ T ad K n) (by unfold pt_; (repeat' split) <;> (try dsimp only) <;> first | with_reducible rfl | (simp only [u2_24, u11_24, u1_24, u21_id, u1_id, u2_id]; done) | (exfalso; (try clear ih); (simp only [iz_lt, iz_le, iz_eq, iz_0, iz_1, iz_2, iz_3, iz_4, iz_5, iz_6, iz_7, iz_8, iz_m] at *) <;> omega))) (congrArg some (congrArg Value.int (by unfold pt_; (repeat' split) <;> (try dsimp only) <;> first | with_reducible rfl | (exfalso; (try clear ih); (simp only [iz_lt, iz_le, iz_eq, iz_0, iz_1, iz_2, iz_3, iz_4, iz_5, iz_6, iz_7, iz_8, iz_m] at *) <;> omega))))
    · first | refine go_aload_n (i := 0) X rfl rfl dc_M_table_46 ?_ | refine go_aloadN_n (i := 0) X rfl rfl dc_M_table_46 ?_
      refine gm_get X 27 (by decide) fl_M_80 rfl dc_M_table_47 ?_
      refine go_iload_n (i := 2) X rfl rfl dc_M_table_50 ?_
      refine go_bipush (v := 7) X (by decide) dc_M_table_51 ?_
      refine go_iand X dc_M_table_53 ?_
      refine go_iload_n (i := 3) X rfl rfl dc_M_table_54 ?_
      refine gm_st X (by decide) (by assumption) dc_M_table_55 ?_
      refine go_iload_n (i := 1) X rfl rfl dc_M_table_56 ?_
      refine go_iconst (v := 2) X (by decide) dc_M_table_57 ?_
      refine go_icmp_ne (tgt := 66) X dc_M_table_58 (by decide) (fun h58 => ?_) (fun h58 => ?_)
      · refine go_iload (i := 5) X rfl dc_M_table_66 ?_
        exact go_iret X hr dc_M_table_68 (congrArg (mW_ T ad K n) (by unfold pt_; (repeat' split) <;> (try dsimp only) <;> first | with_reducible rfl | (simp only [u2_24, u11_24, u1_24, u21_id, u1_id, u2_id]; done) | (exfalso; (try clear ih); (simp only [iz_lt, iz_le, iz_eq, iz_0, iz_1, iz_2, iz_3, iz_4, iz_5, iz_6, iz_7, iz_8, iz_m] at *) <;> omega))) (congrArg some (congrArg Value.int (by unfold pt_; (repeat' split) <;> (try dsimp only) <;> first | with_reducible rfl | (exfalso; (try clear ih); (simp only [iz_lt, iz_le, iz_eq, iz_0, iz_1, iz_2, iz_3, iz_4, iz_5, iz_6, iz_7, iz_8, iz_m] at *) <;> omega))))
      · refine go_iload (i := 4) X rfl dc_M_table_61 ?_
        refine go_goto (tgt := 68) X dc_M_table_63 (by decide) ?_
        exact go_iret X hr dc_M_table_68 (congrArg (mW_ T ad K n) (by unfold pt_; (repeat' split) <;> (try dsimp only) <;> first | with_reducible rfl | (simp only [u2_24, u11_24, u1_24, u21_id, u1_id, u2_id]; done) | (exfalso; (try clear ih); (simp only [iz_lt, iz_le, iz_eq, iz_0, iz_1, iz_2, iz_3, iz_4, iz_5, iz_6, iz_7, iz_8, iz_m] at *) <;> omega))) (congrArg some (congrArg Value.int (by unfold pt_; (repeat' split) <;> (try dsimp only) <;> first | with_reducible rfl | (exfalso; (try clear ih); (simp only [iz_lt, iz_le, iz_eq, iz_0, iz_1, iz_2, iz_3, iz_4, iz_5, iz_6, iz_7, iz_8, iz_m] at *) <;> omega))))
  · have hlt : j < 8 := by rw [iz_le, iz_8, iz_nI (by omega)] at h10; omega
    have hx : Ix_ (nI j) 8 j := Ix_n hlt (by decide)
    refine go_iload (i := 4) X rfl dc_M_table_13 ?_
    first | refine go_aload_n (i := 0) X rfl rfl dc_M_table_15 ?_ | refine go_aloadN_n (i := 0) X rfl rfl dc_M_table_15 ?_
    refine gm_get X 27 (by decide) fl_M_80 rfl dc_M_table_16 ?_
    refine go_iload (i := 5) X rfl dc_M_table_19 ?_
    refine gm_ld (f := ρ 24) X rfl (by decide) (by assumption) dc_M_table_21 ?_
    refine go_iadd X dc_M_table_22 ?_
    refine go_istore (i := 4) X (by decide) dc_M_table_23 ?_
    refine go_iinc (i := 5) (v := nI (j + 1)) X rfl (by rw [lit1]; exact nI_1 j) (by decide) dc_M_table_25 ?_
    refine go_goto (tgt := 6) X dc_M_table_28 (by decide) ?_
    refine go_loc (L' := [(0, .ref (ad 0)), (1, .int op), (2, .int a), (3, .int b), (4, .int (sm_ (ρ 24) (j + 1))), (5, .int (nI (j + 1)))]) rfl ?_
    exact ih (by omega)
set_option maxHeartbeats 4000000 in
set_option maxRecDepth 20000 in
theorem tm_bank (l : Launch) (D : va_G) (T : Nat → ClassId) (ad : Nat → Nat) (A : Nat → Prop) (nw : List Cond) (K n : Nat) {ρ : ST_} {op a b : Int32} : cm_ l D T ad K n A nw yn_M_bank (.code yn_M_bank cd_M_bank 5 (some .int)) 0 [.int op, .int a, .int b] ρ (u2_ (u1_ ρ 24 (pb_ op a b (ρ 24) (ρ 0 2)).1) 0 2 (pb_ op a b (ρ 24) (ρ 0 2)).2.1) (some (.int (pb_ op a b (ρ 24) (ρ 0 2)).2.2)) := by
  have h3 : Ix_ (a &&& 3) 8 (ix_ (a &&& 3)) := Ix_le (ix_and3 a) (by decide)
  have h3b : Ix_ (b &&& 3) 8 (ix_ (b &&& 3)) := Ix_le (ix_and3 b) (by decide)
  refine go_in (by decide) (Nat.le_of_ble_eq_true rfl) (List.forall_mem_cons.mpr ⟨rfl, List.forall_mem_cons.mpr ⟨rfl, List.forall_mem_cons.mpr ⟨rfl, List.forall_mem_cons.mpr ⟨rfl, fun _ h => nomatch h⟩⟩⟩⟩) ?_
  intro P e s m args below meth c X hr hnm hN
  replace X : Cx_ P l e (rm_d 0) s m args below meth c cd_M_bank 5 rn_M D cl_ (tys_ T) TG_ := X
  refine go_loc (L' := [(0, .ref (ad 0)), (1, .int op), (2, .int a), (3, .int b)]) rfl ?_
  refine go_iload_n (i := 2) X rfl rfl dc_M_bank_0 ?_
  refine go_iconst (v := 3) X (by decide) dc_M_bank_1 ?_
  refine go_iand X dc_M_bank_2 ?_
  refine go_istore (i := 4) X (by decide) dc_M_bank_3 ?_
  refine go_iload_n (i := 1) X rfl rfl dc_M_bank_5 ?_
  refine go_if_ne (tgt := 61) X dc_M_bank_6 (by decide) (fun h6 => ?_) (fun h6 => ?_)
  · refine go_iload_n (i := 1) X rfl rfl dc_M_bank_61 ?_
    refine go_iconst (v := 2) X (by decide) dc_M_bank_62 ?_
    refine go_icmp_ne (tgt := 82) X dc_M_bank_63 (by decide) (fun h63 => ?_) (fun h63 => ?_)
    · first | refine go_aload_n (i := 0) X rfl rfl dc_M_bank_82 ?_ | refine go_aloadN_n (i := 0) X rfl rfl dc_M_bank_82 ?_
      refine gm_get X 27 (by decide) fl_M_80 rfl dc_M_bank_83 ?_
      refine go_iload (i := 4) X rfl dc_M_bank_86 ?_
      refine gm_ld (f := ρ 24) X rfl (by decide) (by assumption) dc_M_bank_88 ?_
      exact go_iret X hr dc_M_bank_89 (congrArg (mW_ T ad K n) (by unfold pb_; (repeat' split) <;> (try dsimp only) <;> first | with_reducible rfl | (simp only [u2_24, u11_24, u1_24, u21_id, u1_id, u2_id]; done) | (exfalso; (try clear ih); (simp only [iz_lt, iz_le, iz_eq, iz_0, iz_1, iz_2, iz_3, iz_4, iz_5, iz_6, iz_7, iz_8, iz_m] at *) <;> omega))) (congrArg some (congrArg Value.int (by unfold pb_; (repeat' split) <;> (try dsimp only) <;> first | with_reducible rfl | (exfalso; (try clear ih); (simp only [iz_lt, iz_le, iz_eq, iz_0, iz_1, iz_2, iz_3, iz_4, iz_5, iz_6, iz_7, iz_8, iz_m] at *) <;> omega))))
    · first | refine go_aload_n (i := 0) X rfl rfl dc_M_bank_66 ?_ | refine go_aloadN_n (i := 0) X rfl rfl dc_M_bank_66 ?_
      refine gm_get X 27 (by decide) fl_M_80 rfl dc_M_bank_67 ?_
      refine go_iload (i := 4) X rfl dc_M_bank_70 ?_
      first | refine go_aload_n (i := 0) X rfl rfl dc_M_bank_72 ?_ | refine go_aloadN_n (i := 0) X rfl rfl dc_M_bank_72 ?_
      refine gm_get X 27 (by decide) fl_M_80 rfl dc_M_bank_73 ?_
      refine go_iload (i := 4) X rfl dc_M_bank_76 ?_
      refine gm_ld (f := ρ 24) X rfl (by decide) (by assumption) dc_M_bank_78 ?_
      refine go_iload_n (i := 3) X rfl rfl dc_M_bank_79 ?_
      refine go_iadd X dc_M_bank_80 ?_
      refine gm_st X (by decide) (by assumption) dc_M_bank_81 ?_
      first | refine go_aload_n (i := 0) X rfl rfl dc_M_bank_82 ?_ | refine go_aloadN_n (i := 0) X rfl rfl dc_M_bank_82 ?_
      refine gm_get X 27 (by decide) fl_M_80 rfl dc_M_bank_83 ?_
      refine go_iload (i := 4) X rfl dc_M_bank_86 ?_
      refine gm_ld (f := upd (ρ 24) (ix_ (a &&& 3)) (ρ 24 (ix_ (a &&& 3)) + b)) X rfl (by decide) (by assumption) dc_M_bank_88 ?_
      rw [pk_us]
      exact go_iret X hr dc_M_bank_89 (congrArg (mW_ T ad K n) (by unfold pb_; (repeat' split) <;> (try dsimp only) <;> first | with_reducible rfl | (simp only [u2_24, u11_24, u1_24, u21_id, u1_id, u2_id]; done) | (exfalso; (try clear ih); (simp only [iz_lt, iz_le, iz_eq, iz_0, iz_1, iz_2, iz_3, iz_4, iz_5, iz_6, iz_7, iz_8, iz_m] at *) <;> omega))) (congrArg some (congrArg Value.int (by unfold pb_; (repeat' split) <;> (try dsimp only) <;> first | with_reducible rfl | (exfalso; (try clear ih); (simp only [iz_lt, iz_le, iz_eq, iz_0, iz_1, iz_2, iz_3, iz_4, iz_5, iz_6, iz_7, iz_8, iz_m] at *) <;> omega))))
  · first | refine go_aload_n (i := 0) X rfl rfl dc_M_bank_9 ?_ | refine go_aloadN_n (i := 0) X rfl rfl dc_M_bank_9 ?_
    refine gm_get X 27 (by decide) fl_M_80 rfl dc_M_bank_10 ?_
    refine go_iload (i := 4) X rfl dc_M_bank_13 ?_
    refine gm_ld (f := ρ 24) X rfl (by decide) (by assumption) dc_M_bank_15 ?_
    refine go_bipush (v := 10) X (by decide) dc_M_bank_16 ?_
    refine go_icmp_ge (tgt := 23) X dc_M_bank_18 (by decide) (fun h18 => ?_) (fun h18 => ?_)
    · first | refine go_aload_n (i := 0) X rfl rfl dc_M_bank_23 ?_ | refine go_aloadN_n (i := 0) X rfl rfl dc_M_bank_23 ?_
      refine gm_get X 27 (by decide) fl_M_80 rfl dc_M_bank_24 ?_
      refine go_iload (i := 4) X rfl dc_M_bank_27 ?_
      first | refine go_aload_n (i := 0) X rfl rfl dc_M_bank_29 ?_ | refine go_aloadN_n (i := 0) X rfl rfl dc_M_bank_29 ?_
      refine gm_get X 27 (by decide) fl_M_80 rfl dc_M_bank_30 ?_
      refine go_iload (i := 4) X rfl dc_M_bank_33 ?_
      refine gm_ld (f := ρ 24) X rfl (by decide) (by assumption) dc_M_bank_35 ?_
      refine go_bipush (v := 10) X (by decide) dc_M_bank_36 ?_
      refine go_isub X dc_M_bank_38 ?_
      refine gm_st X (by decide) (by assumption) dc_M_bank_39 ?_
      first | refine go_aload_n (i := 0) X rfl rfl dc_M_bank_40 ?_ | refine go_aloadN_n (i := 0) X rfl rfl dc_M_bank_40 ?_
      refine gm_get X 27 (by decide) fl_M_80 rfl dc_M_bank_41 ?_
      refine go_iload_n (i := 3) X rfl rfl dc_M_bank_44 ?_
      refine go_iconst (v := 3) X (by decide) dc_M_bank_45 ?_
      refine go_iand X dc_M_bank_46 ?_
      first | refine go_aload_n (i := 0) X rfl rfl dc_M_bank_47 ?_ | refine go_aloadN_n (i := 0) X rfl rfl dc_M_bank_47 ?_
      refine gm_get X 27 (by decide) fl_M_80 rfl dc_M_bank_48 ?_
      refine go_iload_n (i := 3) X rfl rfl dc_M_bank_51 ?_
      refine go_iconst (v := 3) X (by decide) dc_M_bank_52 ?_
      refine go_iand X dc_M_bank_53 ?_
      refine gm_ld (f := upd (ρ 24) (ix_ (a &&& 3)) (ρ 24 (ix_ (a &&& 3)) - 10)) X rfl (by decide) (by assumption) dc_M_bank_54 ?_
      refine go_bipush (v := 10) X (by decide) dc_M_bank_55 ?_
      refine go_iadd X dc_M_bank_57 ?_
      refine gm_st X (by decide) (by assumption) dc_M_bank_58 ?_
      refine go_iconst (v := 1) X (by decide) dc_M_bank_59 ?_
      exact go_iret X hr dc_M_bank_60 (congrArg (mW_ T ad K n) (by unfold pb_; (repeat' split) <;> (try dsimp only) <;> first | with_reducible rfl | (simp only [u2_24, u11_24, u1_24, u21_id, u1_id, u2_id]; done) | (exfalso; (try clear ih); (simp only [iz_lt, iz_le, iz_eq, iz_0, iz_1, iz_2, iz_3, iz_4, iz_5, iz_6, iz_7, iz_8, iz_m] at *) <;> omega))) (congrArg some (congrArg Value.int (by unfold pb_; (repeat' split) <;> (try dsimp only) <;> first | with_reducible rfl | (exfalso; (try clear ih); (simp only [iz_lt, iz_le, iz_eq, iz_0, iz_1, iz_2, iz_3, iz_4, iz_5, iz_6, iz_7, iz_8, iz_m] at *) <;> omega))))
    · refine go_iconst (v := 0) X (by decide) dc_M_bank_21 ?_
      exact go_iret X hr dc_M_bank_22 (congrArg (mW_ T ad K n) (by unfold pb_; (repeat' split) <;> (try dsimp only) <;> first | with_reducible rfl | (simp only [u2_24, u11_24, u1_24, u21_id, u1_id, u2_id]; done) | (exfalso; (try clear ih); (simp only [iz_lt, iz_le, iz_eq, iz_0, iz_1, iz_2, iz_3, iz_4, iz_5, iz_6, iz_7, iz_8, iz_m] at *) <;> omega))) (congrArg some (congrArg Value.int (by unfold pb_; (repeat' split) <;> (try dsimp only) <;> first | with_reducible rfl | (exfalso; (try clear ih); (simp only [iz_lt, iz_le, iz_eq, iz_0, iz_1, iz_2, iz_3, iz_4, iz_5, iz_6, iz_7, iz_8, iz_m] at *) <;> omega))))
set_option maxHeartbeats 4000000 in
set_option maxRecDepth 20000 in
theorem tm_queue (l : Launch) (D : va_G) (T : Nat → ClassId) (ad : Nat → Nat) (A : Nat → Prop) (nw : List Cond) (K n : Nat) {ρ : ST_} {op a : Int32} (hK : K < 2) (hz : 0 ≤ (ρ 0 2).toInt ∧ (ρ 0 2).toInt ≤ 8) : cm_ l D T ad K n A nw yn_M_queue (.code yn_M_queue cd_M_queue 5 (some .int)) 0 [.int op, .int a] ρ (u2_ (u1_ ρ 24 (pq_ K op a (ρ 24) (ρ 0 2)).1) 0 2 (pq_ K op a (ρ 24) (ρ 0 2)).2.1) (some (.int (pq_ K op a (ρ 24) (ρ 0 2)).2.2)) := by
  refine go_in (by decide) (Nat.le_of_ble_eq_true rfl) (List.forall_mem_cons.mpr ⟨rfl, List.forall_mem_cons.mpr ⟨rfl, List.forall_mem_cons.mpr ⟨rfl, fun _ h => nomatch h⟩⟩⟩) ?_
  intro P e s m args below meth c X hr hnm hN
  replace X : Cx_ P l e (rm_d 0) s m args below meth c cd_M_queue 5 rn_M D cl_ (tys_ T) TG_ := X
  refine go_loc (L' := [(0, .ref (ad 0)), (1, .int op), (2, .int a)]) rfl ?_
  refine go_iload_n (i := 1) X rfl rfl dc_M_queue_0 ?_
  refine go_iconst (v := 2) X (by decide) dc_M_queue_1 ?_
  refine go_icmp_ne (tgt := 10) X dc_M_queue_2 (by decide) (fun h2 => ?_) (fun h2 => ?_)
  · refine go_iload_n (i := 1) X rfl rfl dc_M_queue_10 ?_
    refine go_if_ne (tgt := 50) X dc_M_queue_11 (by decide) (fun h11 => ?_) (fun h11 => ?_)
    · first | refine go_aload_n (i := 0) X rfl rfl dc_M_queue_50 ?_ | refine go_aloadN_n (i := 0) X rfl rfl dc_M_queue_50 ?_
      refine gm_get (v := .int (ρ 0 2)) X 28 (by decide) fl_M_102 rfl dc_M_queue_51 ?_
      refine go_if_ne (tgt := 59) X dc_M_queue_54 (by decide) (fun h54 => ?_) (fun h54 => ?_)
      · obtain ⟨m9, hm8, ez, ez1⟩ := z_pred hz h54
        have hx1 : Ix_ (ρ 0 2 - 1) 8 (ix_ (ρ 0 2 - 1)) := by rw [ez1]; exact ⟨vp_in_nI (by omega) (by decide), rfl⟩
        have h00 : Ix_ (0 : Int32) 8 0 := ⟨vp_in_iff.mpr (by decide), by decide⟩
        first | refine go_aload_n (i := 0) X rfl rfl dc_M_queue_59 ?_ | refine go_aloadN_n (i := 0) X rfl rfl dc_M_queue_59 ?_
        refine go_dup X rfl dc_M_queue_60 ?_
        refine gm_get (v := .int (ρ 0 2)) X 28 (by decide) fl_M_102 rfl dc_M_queue_61 ?_
        refine go_iconst (v := 1) X (by decide) dc_M_queue_64 ?_
        refine go_isub X dc_M_queue_65 ?_
        refine gm_put X 28 2 (by decide) fl_M_102 rfl (tk_M 28 (by decide)) (mF_s2 _ _ _ _ _) dc_M_queue_66 ?_
        first | refine go_aload_n (i := 0) X rfl rfl dc_M_queue_69 ?_ | refine go_aloadN_n (i := 0) X rfl rfl dc_M_queue_69 ?_
        refine gm_get X 1 (by decide) fl_M_86 rfl dc_M_queue_70 ?_
        refine go_if_ne (tgt := 85) X dc_M_queue_73 (by decide) (fun h73 => ?_) (fun h73 => ?_)
        · first | refine go_aload_n (i := 0) X rfl rfl dc_M_queue_85 ?_ | refine go_aloadN_n (i := 0) X rfl rfl dc_M_queue_85 ?_
          refine gm_get X 27 (by decide) fl_M_80 rfl dc_M_queue_86 ?_
          first | refine go_aload_n (i := 0) X rfl rfl dc_M_queue_89 ?_ | refine go_aloadN_n (i := 0) X rfl rfl dc_M_queue_89 ?_
          refine gm_get (v := .int (ρ 0 2 - 1)) X 28 (by decide) fl_M_102 rfl dc_M_queue_90 ?_
          refine gm_ld (f := ρ 24) X rfl (by decide) (by assumption) dc_M_queue_93 ?_
          refine go_istore_n (i := 3) X rfl (by decide) dc_M_queue_94 ?_
          refine go_iconst (v := nI 0) X (by decide) dc_M_queue_95 ?_
          refine go_istore (i := 4) X (by decide) dc_M_queue_96 ?_
          first | refine go_aload_n (i := 0) X rfl rfl dc_M_queue_98 ?_ | refine go_aloadN_n (i := 0) X rfl rfl dc_M_queue_98 ?_
          refine gm_get X 1 (by decide) fl_M_86 rfl dc_M_queue_99 ?_
          refine go_if_ne (tgt := 136) X dc_M_queue_102 (by decide) (fun h102 => ?_) (fun h102 => ?_)
          · refine go_iload_n (i := 3) X rfl rfl dc_M_queue_136 ?_
            have k0 : ¬ K = 0 := fun q => h73 (by rw [q]; rfl)
            exact go_iret X hr dc_M_queue_137 (congrArg (mW_ T ad K n) (by unfold pq_; rw [if_neg h2, if_neg h11, if_neg h54, if_neg k0, u1_id])) (congrArg some (congrArg Value.int (by unfold pq_; rw [if_neg h2, if_neg h11, if_neg h54, if_neg k0])))
          · exact absurd h102 h73
        · first | refine go_aload_n (i := 0) X rfl rfl dc_M_queue_76 ?_ | refine go_aloadN_n (i := 0) X rfl rfl dc_M_queue_76 ?_
          refine gm_get X 27 (by decide) fl_M_80 rfl dc_M_queue_77 ?_
          refine go_iconst (v := 0) X (by decide) dc_M_queue_80 ?_
          refine gm_ld (f := ρ 24) X rfl (by decide) (by assumption) dc_M_queue_81 ?_
          refine go_goto (tgt := 94) X dc_M_queue_82 (by decide) ?_
          refine go_istore_n (i := 3) X rfl (by decide) dc_M_queue_94 ?_
          refine go_iconst (v := nI 0) X (by decide) dc_M_queue_95 ?_
          refine go_istore (i := 4) X (by decide) dc_M_queue_96 ?_
          refine go_loc (L' := [(0, .ref (ad 0)), (1, .int op), (2, .int a), (3, .int (ρ 24 0)), (4, .int (nI 0))]) rfl ?_
          refine go_eqw (w' := mW_ T ad K n (u1_ (u2_ ρ 0 2 (ρ 0 2 - 1)) 24 (sh_ (ρ 24) 0))) (congrArg _ (by rw [sh_0]; exact (u1_id (u2_ ρ 0 2 (ρ 0 2 - 1)) 24).symm)) ?_
          refine (lp_up (P := fun j => Go_ P l e (rm_d 0) s m args below meth c D cl_ A 5 0 0 _ (mW_ T ad K n (u1_ (u2_ ρ 0 2 (ρ 0 2 - 1)) 24 (sh_ (ρ 24) j))) 98 [(0, .ref (ad 0)), (1, .int op), (2, .int a), (3, .int (ρ 24 0)), (4, .int (nI j))] []) m9 (fun j hj ih => ?_)) 0 (Nat.zero_le _)
          first | refine go_aload_n (i := 0) X rfl rfl dc_M_queue_98 ?_ | refine go_aloadN_n (i := 0) X rfl rfl dc_M_queue_98 ?_
          refine gm_get X 1 (by decide) fl_M_86 rfl dc_M_queue_99 ?_
          refine go_if_ne (tgt := 136) X dc_M_queue_102 (by decide) (fun h102 => ?_) (fun h102 => ?_)
          · exact absurd h73 h102
          · refine go_iload (i := 4) X rfl dc_M_queue_105 ?_
            first | refine go_aload_n (i := 0) X rfl rfl dc_M_queue_107 ?_ | refine go_aloadN_n (i := 0) X rfl rfl dc_M_queue_107 ?_
            refine gm_get (v := .int (ρ 0 2 - 1)) X 28 (by decide) fl_M_102 rfl dc_M_queue_108 ?_
            refine go_icmp_ge (tgt := 136) X dc_M_queue_111 (by decide) (fun h111 => ?_) (fun h111 => ?_)
            · have ej : j = m9 := by rw [ez1, iz_le, iz_nI (by omega), iz_nI (by omega)] at h111; omega
              subst ej
              refine go_iload_n (i := 3) X rfl rfl dc_M_queue_136 ?_
              have ei : ix_ (ρ 0 2 - 1) = j := by rw [ez1]; exact nI_clamp (by omega)
              have k0 : K = 0 := (nI_K (by omega) 0 (by decide)).mp h73
              exact go_iret X hr dc_M_queue_137 (congrArg (mW_ T ad K n) (by unfold pq_; rw [if_neg h2, if_neg h11, if_neg h54, if_pos k0, ei, u12_c])) (congrArg some (congrArg Value.int (by unfold pq_; rw [if_neg h2, if_neg h11, if_neg h54, if_pos k0])))
            · have hlt : j < m9 := by rw [ez1, iz_le, iz_nI (by omega), iz_nI (by omega)] at h111; omega
              have hx : Ix_ (nI j) 8 j := Ix_n (by omega) (by decide)
              have hx2 : Ix_ (nI j + 1) 8 (j + 1) := by rw [nI_1]; exact Ix_n (by omega) (by decide)
              first | refine go_aload_n (i := 0) X rfl rfl dc_M_queue_114 ?_ | refine go_aloadN_n (i := 0) X rfl rfl dc_M_queue_114 ?_
              refine gm_get X 27 (by decide) fl_M_80 rfl dc_M_queue_115 ?_
              refine go_iload (i := 4) X rfl dc_M_queue_118 ?_
              first | refine go_aload_n (i := 0) X rfl rfl dc_M_queue_120 ?_ | refine go_aloadN_n (i := 0) X rfl rfl dc_M_queue_120 ?_
              refine gm_get X 27 (by decide) fl_M_80 rfl dc_M_queue_121 ?_
              refine go_iload (i := 4) X rfl dc_M_queue_124 ?_
              refine go_iconst (v := 1) X (by decide) dc_M_queue_126 ?_
              refine go_iadd X dc_M_queue_127 ?_
              refine gm_ld (f := sh_ (ρ 24) j) X (u1_same _ _ _) (by decide) (by assumption) dc_M_queue_128 ?_
              refine gm_st X (by decide) (by assumption) dc_M_queue_129 ?_
              refine go_iinc (i := 4) (v := nI (j + 1)) X rfl (by rw [lit1]; exact nI_1 j) (by decide) dc_M_queue_130 ?_
              refine go_goto (tgt := 98) X dc_M_queue_133 (by decide) ?_
              refine go_loc (L' := [(0, .ref (ad 0)), (1, .int op), (2, .int a), (3, .int (ρ 24 0)), (4, .int (nI (j + 1)))]) rfl ?_
              refine go_eqw (w' := mW_ T ad K n (u1_ (u2_ ρ 0 2 (ρ 0 2 - 1)) 24 (sh_ (ρ 24) (j + 1)))) (congrArg _ (by rw [u12_id, sh_s])) ?_
              exact ih (by omega)
      · refine go_iconst (v := (-1)) X (by decide) dc_M_queue_57 ?_
        exact go_iret X hr dc_M_queue_58 (congrArg (mW_ T ad K n) (by unfold pq_; (repeat' split) <;> (try dsimp only) <;> first | with_reducible rfl | (simp only [u2_24, u11_24, u1_24, u21_id, u1_id, u2_id]; done) | (exfalso; (try clear ih); (simp only [iz_lt, iz_le, iz_eq, iz_0, iz_1, iz_2, iz_3, iz_4, iz_5, iz_6, iz_7, iz_8, iz_m] at *) <;> omega))) (congrArg some (congrArg Value.int (by unfold pq_; (repeat' split) <;> (try dsimp only) <;> first | with_reducible rfl | (exfalso; (try clear ih); (simp only [iz_lt, iz_le, iz_eq, iz_0, iz_1, iz_2, iz_3, iz_4, iz_5, iz_6, iz_7, iz_8, iz_m] at *) <;> omega))))
    · first | refine go_aload_n (i := 0) X rfl rfl dc_M_queue_14 ?_ | refine go_aloadN_n (i := 0) X rfl rfl dc_M_queue_14 ?_
      refine gm_get (v := .int (ρ 0 2)) X 28 (by decide) fl_M_102 rfl dc_M_queue_15 ?_
      refine go_bipush (v := 8) X (by decide) dc_M_queue_18 ?_
      refine go_icmp_ne (tgt := 25) X dc_M_queue_20 (by decide) (fun h20 => ?_) (fun h20 => ?_)
      · have hx : Ix_ (ρ 0 2) 8 (ix_ (ρ 0 2)) := Ix_r hz.1 (by rw [iz_eq, iz_8] at h20; omega)
        first | refine go_aload_n (i := 0) X rfl rfl dc_M_queue_25 ?_ | refine go_aloadN_n (i := 0) X rfl rfl dc_M_queue_25 ?_
        refine gm_get X 27 (by decide) fl_M_80 rfl dc_M_queue_26 ?_
        first | refine go_aload_n (i := 0) X rfl rfl dc_M_queue_29 ?_ | refine go_aloadN_n (i := 0) X rfl rfl dc_M_queue_29 ?_
        refine gm_get (v := .int (ρ 0 2)) X 28 (by decide) fl_M_102 rfl dc_M_queue_30 ?_
        refine go_iload_n (i := 2) X rfl rfl dc_M_queue_33 ?_
        refine gm_st X (by decide) (by assumption) dc_M_queue_34 ?_
        first | refine go_aload_n (i := 0) X rfl rfl dc_M_queue_35 ?_ | refine go_aloadN_n (i := 0) X rfl rfl dc_M_queue_35 ?_
        refine go_dup X rfl dc_M_queue_36 ?_
        refine gm_get (v := .int (ρ 0 2)) X 28 (by decide) fl_M_102 rfl dc_M_queue_37 ?_
        refine go_iconst (v := 1) X (by decide) dc_M_queue_40 ?_
        refine go_iadd X dc_M_queue_41 ?_
        refine gm_put X 28 2 (by decide) fl_M_102 rfl (tk_M 28 (by decide)) (mF_s2 _ _ _ _ _) dc_M_queue_42 ?_
        first | refine go_aload_n (i := 0) X rfl rfl dc_M_queue_45 ?_ | refine go_aloadN_n (i := 0) X rfl rfl dc_M_queue_45 ?_
        refine gm_get (v := .int (ρ 0 2 + 1)) X 28 (by decide) fl_M_102 rfl dc_M_queue_46 ?_
        exact go_iret X hr dc_M_queue_49 (congrArg (mW_ T ad K n) (by unfold pq_; (repeat' split) <;> (try dsimp only) <;> first | with_reducible rfl | (simp only [u2_24, u11_24, u1_24, u21_id, u1_id, u2_id]; done) | (exfalso; (try clear ih); (simp only [iz_lt, iz_le, iz_eq, iz_0, iz_1, iz_2, iz_3, iz_4, iz_5, iz_6, iz_7, iz_8, iz_m] at *) <;> omega))) (congrArg some (congrArg Value.int (by unfold pq_; (repeat' split) <;> (try dsimp only) <;> first | with_reducible rfl | (exfalso; (try clear ih); (simp only [iz_lt, iz_le, iz_eq, iz_0, iz_1, iz_2, iz_3, iz_4, iz_5, iz_6, iz_7, iz_8, iz_m] at *) <;> omega))))
      · refine go_iconst (v := (-1)) X (by decide) dc_M_queue_23 ?_
        exact go_iret X hr dc_M_queue_24 (congrArg (mW_ T ad K n) (by unfold pq_; (repeat' split) <;> (try dsimp only) <;> first | with_reducible rfl | (simp only [u2_24, u11_24, u1_24, u21_id, u1_id, u2_id]; done) | (exfalso; (try clear ih); (simp only [iz_lt, iz_le, iz_eq, iz_0, iz_1, iz_2, iz_3, iz_4, iz_5, iz_6, iz_7, iz_8, iz_m] at *) <;> omega))) (congrArg some (congrArg Value.int (by unfold pq_; (repeat' split) <;> (try dsimp only) <;> first | with_reducible rfl | (exfalso; (try clear ih); (simp only [iz_lt, iz_le, iz_eq, iz_0, iz_1, iz_2, iz_3, iz_4, iz_5, iz_6, iz_7, iz_8, iz_m] at *) <;> omega))))
  · first | refine go_aload_n (i := 0) X rfl rfl dc_M_queue_5 ?_ | refine go_aloadN_n (i := 0) X rfl rfl dc_M_queue_5 ?_
    refine gm_get (v := .int (ρ 0 2)) X 28 (by decide) fl_M_102 rfl dc_M_queue_6 ?_
    exact go_iret X hr dc_M_queue_9 (congrArg (mW_ T ad K n) (by unfold pq_; (repeat' split) <;> (try dsimp only) <;> first | with_reducible rfl | (simp only [u2_24, u11_24, u1_24, u21_id, u1_id, u2_id]; done) | (exfalso; (try clear ih); (simp only [iz_lt, iz_le, iz_eq, iz_0, iz_1, iz_2, iz_3, iz_4, iz_5, iz_6, iz_7, iz_8, iz_m] at *) <;> omega))) (congrArg some (congrArg Value.int (by unfold pq_; (repeat' split) <;> (try dsimp only) <;> first | with_reducible rfl | (exfalso; (try clear ih); (simp only [iz_lt, iz_le, iz_eq, iz_0, iz_1, iz_2, iz_3, iz_4, iz_5, iz_6, iz_7, iz_8, iz_m] at *) <;> omega))))
end M2
end
section
section M3
set_option maxHeartbeats 4000000 in
set_option maxRecDepth 20000 in
theorem tm_act (l : Launch) (D : va_G) (T : Nat → ClassId) (ad : Nat → Nat) (A : Nat → Prop) (nw : List Cond) (K n : Nat) {ρ : ST_} {op a b : Int32} (hK : K < 4) (hz : 0 ≤ (ρ 0 2).toInt ∧ (ρ 0 2).toInt ≤ 8) : cm_ l D T ad K n A nw yn_M_act (.code yn_M_act cd_M_act 4 (some .int)) 1 [.int op, .int a, .int b] ρ (hm_act K op a b ρ) (some (.int (hm_actR K op a b ρ))) := by
  refine go_in (by decide) (Nat.le_of_ble_eq_true rfl) (List.forall_mem_cons.mpr ⟨rfl, List.forall_mem_cons.mpr ⟨rfl, List.forall_mem_cons.mpr ⟨rfl, List.forall_mem_cons.mpr ⟨rfl, fun _ h => nomatch h⟩⟩⟩⟩) ?_
  intro P e s m args below meth c X hr hnm hN
  replace X : Cx_ P l e (rm_d 1) s m args below meth c cd_M_act 4 rn_M D cl_ (tys_ T) TG_ := X
  refine go_loc (L' := [(0, .ref (ad 0)), (1, .int op), (2, .int a), (3, .int b)]) rfl ?_
  first | refine go_aload_n (i := 0) X rfl rfl dc_M_act_0 ?_ | refine go_aloadN_n (i := 0) X rfl rfl dc_M_act_0 ?_
  refine gm_get X 1 (by decide) fl_M_86 rfl dc_M_act_1 ?_
  refine go_iconst (v := 2) X (by decide) dc_M_act_4 ?_
  refine go_icmp_ge (tgt := 17) X dc_M_act_5 (by decide) (fun h5 => ?_) (fun h5 => ?_)
  · have k2 : ¬ K < 2 := by rw [iz_le, iz_2, iz_nI (by omega)] at h5; omega
    first | refine go_aload_n (i := 0) X rfl rfl dc_M_act_17 ?_ | refine go_aloadN_n (i := 0) X rfl rfl dc_M_act_17 ?_
    refine gm_get X 1 (by decide) fl_M_86 rfl dc_M_act_18 ?_
    refine go_iconst (v := 2) X (by decide) dc_M_act_21 ?_
    refine go_icmp_ne (tgt := 35) X dc_M_act_22 (by decide) (fun h22 => ?_) (fun h22 => ?_)
    · have k3 : ¬ K = 2 := fun q => h22 (by rw [q]; rfl)
      have hpa : pa_ K op a b (ρ 24) (ρ 0 2) = pb_ op a b (ρ 24) (ρ 0 2) := by unfold pa_; rw [if_neg k2, if_neg k3]
      first | refine go_aload_n (i := 0) X rfl rfl dc_M_act_35 ?_ | refine go_aloadN_n (i := 0) X rfl rfl dc_M_act_35 ?_
      refine go_iload_n (i := 1) X rfl rfl dc_M_act_36 ?_
      refine go_iload_n (i := 2) X rfl rfl dc_M_act_37 ?_
      refine go_iload_n (i := 3) X rfl rfl dc_M_act_38 ?_
      refine go_cV (C := rn_M) (ci := 7) (i := 0) (n := 3) (rest := []) X hN (tm_bank l D T ad A nw K n) ml_M_113 im_M_bank sl_M_Mbank ik_M co_M_bank ⟨rfl, by decide, by decide, by decide +kernel⟩ ⟨rfl, rfl, by decide, by decide⟩ rfl (wl_at (by decide)) rfl rfl (Nat.le_of_ble_eq_true rfl) dc_M_act_39 ⟨Nat.zero_le _, Nat.zero_le _⟩ ?_
      exact go_iret X hr dc_M_act_42 (congrArg (mW_ T ad K n) (by unfold hm_act; rw [hpa])) (congrArg some (congrArg Value.int (by unfold hm_actR; rw [hpa])))
    · have k3 : K = 2 := (nI_K hK 2 (by decide)).mp h22
      have hpa : pa_ K op a b (ρ 24) (ρ 0 2) = pt_ op a b (ρ 24) (ρ 0 2) := by unfold pa_; rw [if_neg k2, if_pos k3]
      first | refine go_aload_n (i := 0) X rfl rfl dc_M_act_25 ?_ | refine go_aloadN_n (i := 0) X rfl rfl dc_M_act_25 ?_
      refine go_iload_n (i := 1) X rfl rfl dc_M_act_26 ?_
      refine go_iload_n (i := 2) X rfl rfl dc_M_act_27 ?_
      refine go_iload_n (i := 3) X rfl rfl dc_M_act_28 ?_
      refine go_cV (C := rn_M) (ci := 7) (i := 0) (n := 3) (rest := []) X hN (tm_table l D T ad A nw K n) ml_M_109 im_M_table sl_M_Mtable ik_M co_M_table ⟨rfl, by decide, by decide, by decide +kernel⟩ ⟨rfl, rfl, by decide, by decide⟩ rfl (wl_at (by decide)) rfl rfl (Nat.le_of_ble_eq_true rfl) dc_M_act_29 ⟨Nat.zero_le _, Nat.zero_le _⟩ ?_
      refine go_goto (tgt := 42) X dc_M_act_32 (by decide) ?_
      exact go_iret X hr dc_M_act_42 (congrArg (mW_ T ad K n) (by unfold hm_act; rw [hpa])) (congrArg some (congrArg Value.int (by unfold hm_actR; rw [hpa])))
  · have k2 : K < 2 := by rw [iz_le, iz_2, iz_nI (by omega)] at h5; omega
    have hpa : pa_ K op a b (ρ 24) (ρ 0 2) = pq_ K op a (ρ 24) (ρ 0 2) := by unfold pa_; rw [if_pos k2]
    first | refine go_aload_n (i := 0) X rfl rfl dc_M_act_8 ?_ | refine go_aloadN_n (i := 0) X rfl rfl dc_M_act_8 ?_
    refine go_iload_n (i := 1) X rfl rfl dc_M_act_9 ?_
    refine go_iload_n (i := 2) X rfl rfl dc_M_act_10 ?_
    refine go_cV (C := rn_M) (ci := 7) (i := 0) (n := 2) (rest := []) X hN (tm_queue l D T ad A nw K n (by omega) hz) ml_M_105 im_M_queue sl_M_Mqueue ik_M co_M_queue ⟨rfl, by decide, by decide, by decide +kernel⟩ ⟨rfl, rfl, by decide, by decide⟩ rfl (wl_at (by decide)) rfl rfl (Nat.le_of_ble_eq_true rfl) dc_M_act_11 ⟨Nat.zero_le _, Nat.zero_le _⟩ ?_
    refine go_goto (tgt := 42) X dc_M_act_14 (by decide) ?_
    exact go_iret X hr dc_M_act_42 (congrArg (mW_ T ad K n) (by unfold hm_act; rw [hpa])) (congrArg some (congrArg Value.int (by unfold hm_actR; rw [hpa])))
set_option maxHeartbeats 4000000 in
set_option maxRecDepth 20000 in
theorem tm_replay (l : Launch) (D : va_G) (T : Nat → ClassId) (ad : Nat → Nat) (A : Nat → Prop) (nw : List Cond) (K n : Nat) {ρ : ST_} {x : Int32} {J : Nat} (hK : K < 4) (hx : x = nI (J + 1)) (hJ : J + 1 < 600) : cm_ l D T ad K n A nw yn_M_replay (.code yn_M_replay cd_M_replay 4 (some .int)) 2 [.int x] ρ (hm_rep K J ρ) (some (.int (hm_repR K J ρ))) := by
  refine go_in (by decide) (Nat.le_of_ble_eq_true rfl) (List.forall_mem_cons.mpr ⟨rfl, List.forall_mem_cons.mpr ⟨rfl, fun _ h => nomatch h⟩⟩) ?_
  intro P e s m args below meth c X hr hnm hN
  replace X : Cx_ P l e (rm_d 2) s m args below meth c cd_M_replay 4 rn_M D cl_ (tys_ T) TG_ := X
  refine go_loc (L' := [(0, .ref (ad 0)), (1, .int x)]) rfl ?_
  first | refine go_aload_n (i := 0) X rfl rfl dc_M_replay_0 ?_ | refine go_aloadN_n (i := 0) X rfl rfl dc_M_replay_0 ?_
  refine go_cVv (C := rn_M) (ci := 7) (i := 0) (n := 0) (rest := []) X hN (tm_begin l D T ad A nw K n hK) ml_M_96 im_M_begin sl_M_Mbegin ik_M co_M_begin ⟨rfl, by decide, by decide, by decide +kernel⟩ ⟨rfl, rfl, by decide, by decide⟩ rfl (wl_at (by decide)) rfl rfl (Nat.le_of_ble_eq_true rfl) dc_M_replay_1 ⟨Nat.zero_le _, Nat.zero_le _⟩ ?_
  refine go_iconst (v := 0) X (by decide) dc_M_replay_4 ?_
  refine go_istore_n (i := 2) X rfl (by decide) dc_M_replay_5 ?_
  refine go_iconst (v := nI (0 + 2)) X (by decide) dc_M_replay_6 ?_
  refine go_istore_n (i := 3) X rfl (by decide) dc_M_replay_7 ?_
  refine go_loc (L' := [(0, .ref (ad 0)), (1, .int x), (2, .int (rs_ K (ρ 21) (ρ 22) (ρ 23) 0).2.2), (3, .int (nI (0 + 2)))]) rfl ?_
  refine go_eqw (w' := mW_ T ad K n (hm_rep K 0 ρ)) (congrArg _ (hm_rep0 K ρ)) ?_
  refine (lp_up (P := fun j => Go_ P l e (rm_d 2) s m args below meth c D cl_ A 4 0 0 _ (mW_ T ad K n (hm_rep K j ρ)) 8 [(0, .ref (ad 0)), (1, .int x), (2, .int (rs_ K (ρ 21) (ρ 22) (ρ 23) j).2.2), (3, .int (nI (j + 2)))] []) J (fun j hj ih => ?_)) 0 (Nat.zero_le _)
  refine go_iload_n (i := 3) X rfl rfl dc_M_replay_8 ?_
  refine go_iload_n (i := 1) X rfl rfl dc_M_replay_9 ?_
  refine go_icmp_gt (tgt := 42) X dc_M_replay_10 (by decide) (fun h10 => ?_) (fun h10 => ?_)
  · have ej : j = J := by rw [hx, iz_lt, iz_nI (by omega), iz_nI (by omega)] at h10; omega
    subst ej
    refine go_iload_n (i := 2) X rfl rfl dc_M_replay_42 ?_
    exact go_iret X hr dc_M_replay_43 rfl rfl
  · have hlt : j < J := by rw [hx, iz_lt, iz_nI (by omega), iz_nI (by omega)] at h10; omega
    have l21 : lm_ 21 = 600 := by decide
    have l22 : lm_ 22 = 600 := by decide
    have l23 : lm_ 23 = 600 := by decide
    have hx1 : Ix_ (nI (j + 2)) (lm_ 21) (j + 2) := by rw [l21]; exact Ix_n (by omega) (by decide)
    have hx2 : Ix_ (nI (j + 2)) (lm_ 22) (j + 2) := by rw [l22]; exact Ix_n (by omega) (by decide)
    have hx3 : Ix_ (nI (j + 2)) (lm_ 23) (j + 2) := by rw [l23]; exact Ix_n (by omega) (by decide)
    first | refine go_aload_n (i := 0) X rfl rfl dc_M_replay_13 ?_ | refine go_aloadN_n (i := 0) X rfl rfl dc_M_replay_13 ?_
    first | refine go_aload_n (i := 0) X rfl rfl dc_M_replay_14 ?_ | refine go_aloadN_n (i := 0) X rfl rfl dc_M_replay_14 ?_
    refine gm_get X 24 (by decide) fl_M_71 rfl dc_M_replay_15 ?_
    refine go_iload_n (i := 3) X rfl rfl dc_M_replay_18 ?_
    refine gm_ld (f := ρ 21) X rfl (by decide) hx1 dc_M_replay_19 ?_
    first | refine go_aload_n (i := 0) X rfl rfl dc_M_replay_20 ?_ | refine go_aloadN_n (i := 0) X rfl rfl dc_M_replay_20 ?_
    refine gm_get X 25 (by decide) fl_M_74 rfl dc_M_replay_21 ?_
    refine go_iload_n (i := 3) X rfl rfl dc_M_replay_24 ?_
    refine gm_ld (f := ρ 22) X rfl (by decide) hx2 dc_M_replay_25 ?_
    first | refine go_aload_n (i := 0) X rfl rfl dc_M_replay_26 ?_ | refine go_aloadN_n (i := 0) X rfl rfl dc_M_replay_26 ?_
    refine gm_get X 26 (by decide) fl_M_77 rfl dc_M_replay_27 ?_
    refine go_iload_n (i := 3) X rfl rfl dc_M_replay_30 ?_
    refine gm_ld (f := ρ 23) X rfl (by decide) hx3 dc_M_replay_31 ?_
    refine go_cV (C := rn_M) (ci := 7) (i := 0) (n := 3) (rest := []) X hN (tm_act l D T ad A nw K n (ρ := hm_rep K j ρ) hK (rs_z K (ρ 21) (ρ 22) (ρ 23) j)) ml_M_116 im_M_act sl_M_Mact ik_M co_M_act ⟨rfl, by decide, by decide, by decide +kernel⟩ ⟨rfl, rfl, by decide, by decide⟩ rfl (wl_at (by decide)) rfl rfl (Nat.le_of_ble_eq_true rfl) dc_M_replay_32 ⟨Nat.zero_le _, Nat.zero_le _⟩ ?_
    refine go_istore_n (i := 2) X rfl (by decide) dc_M_replay_35 ?_
    refine go_iinc (i := 3) (v := nI (j + 1 + 2)) X rfl (by rw [lit1, nI_1, show j + 2 + 1 = j + 1 + 2 by omega]) (by decide) dc_M_replay_36 ?_
    refine go_goto (tgt := 8) X dc_M_replay_39 (by decide) ?_
    refine go_loc (L' := [(0, .ref (ad 0)), (1, .int x), (2, .int (rs_ K (ρ 21) (ρ 22) (ρ 23) (j + 1)).2.2), (3, .int (nI ((j + 1) + 2)))]) rfl ?_
    refine go_eqw (w' := mW_ T ad K n (hm_rep K (j + 1) ρ)) (congrArg _ (hm_reps K j ρ)) ?_
    exact ih (by omega)
set_option maxHeartbeats 4000000 in
set_option maxRecDepth 20000 in
theorem tm_finish (l : Launch) (D : va_G) (T : Nat → ClassId) (ad : Nat → Nat) (A : Nat → Prop) (nw : List Cond) (K n : Nat) {ρ : ST_} {p : Nat} (hn : n ≤ 5) (hp : Ix_ (nI p) 5 p) {J : Nat} (hK : K < 4) (h12 : Ix_ (ρ 12 p) 32 (ix_ (ρ 12 p))) (hJ : ρ 2 (ix_ (ρ 12 p)) = nI (J + 1)) (hJ6 : J + 1 < 600) : cm_ l D T ad K n A nw yn_M_finish (.code yn_M_finish cd_M_finish 2 (some .int)) 3 [.int (nI p)] ρ (hm_fin K ρ p) (some (.int 1)) := by
  have eJ : ix_ (ρ 2 (ix_ (ρ 12 p))) - 1 = J := by rw [hJ, show ix_ (nI (J + 1)) = J + 1 from nI_clamp (by omega)]; rfl
  refine go_in (by decide) (Nat.le_of_ble_eq_true rfl) (List.forall_mem_cons.mpr ⟨rfl, List.forall_mem_cons.mpr ⟨rfl, fun _ h => nomatch h⟩⟩) ?_
  intro P e s m args below meth c X hr hnm hN
  replace X : Cx_ P l e (rm_d 3) s m args below meth c cd_M_finish 2 rn_M D cl_ (tys_ T) TG_ := X
  refine go_loc (L' := [(0, .ref (ad 0)), (1, .int (nI p))]) rfl ?_
  first | refine go_aload_n (i := 0) X rfl rfl dc_M_finish_0 ?_ | refine go_aloadN_n (i := 0) X rfl rfl dc_M_finish_0 ?_
  refine gm_get X 10 (by decide) fl_M_32 rfl dc_M_finish_1 ?_
  refine go_iload_n (i := 1) X rfl rfl dc_M_finish_4 ?_
  first | refine go_aload_n (i := 0) X rfl rfl dc_M_finish_5 ?_ | refine go_aloadN_n (i := 0) X rfl rfl dc_M_finish_5 ?_
  refine gm_get X 14 (by decide) fl_M_44 rfl dc_M_finish_6 ?_
  refine go_iload_n (i := 1) X rfl rfl dc_M_finish_9 ?_
  refine gm_ld (f := ρ 12) X rfl (by decide) (by assumption) dc_M_finish_10 ?_
  refine gm_st X (by decide) (by assumption) dc_M_finish_11 ?_
  first | refine go_aload_n (i := 0) X rfl rfl dc_M_finish_12 ?_ | refine go_aloadN_n (i := 0) X rfl rfl dc_M_finish_12 ?_
  refine gm_get X 11 (by decide) fl_M_35 rfl dc_M_finish_13 ?_
  refine go_iload_n (i := 1) X rfl rfl dc_M_finish_16 ?_
  refine go_iconst (v := (-1)) X (by decide) dc_M_finish_17 ?_
  refine gm_st X (by decide) (by assumption) dc_M_finish_18 ?_
  first | refine go_aload_n (i := 0) X rfl rfl dc_M_finish_19 ?_ | refine go_aloadN_n (i := 0) X rfl rfl dc_M_finish_19 ?_
  refine gm_get X 22 (by decide) fl_M_68 rfl dc_M_finish_20 ?_
  refine go_iload_n (i := 1) X rfl rfl dc_M_finish_23 ?_
  first | refine go_aload_n (i := 0) X rfl rfl dc_M_finish_24 ?_ | refine go_aloadN_n (i := 0) X rfl rfl dc_M_finish_24 ?_
  refine gm_get X 4 (by decide) fl_M_13 rfl dc_M_finish_25 ?_
  first | refine go_aload_n (i := 0) X rfl rfl dc_M_finish_28 ?_ | refine go_aloadN_n (i := 0) X rfl rfl dc_M_finish_28 ?_
  refine gm_get X 14 (by decide) fl_M_44 rfl dc_M_finish_29 ?_
  refine go_iload_n (i := 1) X rfl rfl dc_M_finish_32 ?_
  refine gm_ld (f := ρ 12) X rfl (by decide) (by assumption) dc_M_finish_33 ?_
  refine gm_ld (f := ρ 2) X rfl (by decide) (by assumption) dc_M_finish_34 ?_
  refine gm_st X (by decide) (by assumption) dc_M_finish_35 ?_
  first | refine go_aload_n (i := 0) X rfl rfl dc_M_finish_36 ?_ | refine go_aloadN_n (i := 0) X rfl rfl dc_M_finish_36 ?_
  refine gm_get X 21 (by decide) fl_M_65 rfl dc_M_finish_37 ?_
  refine go_iload_n (i := 1) X rfl rfl dc_M_finish_40 ?_
  first | refine go_aload_n (i := 0) X rfl rfl dc_M_finish_41 ?_ | refine go_aloadN_n (i := 0) X rfl rfl dc_M_finish_41 ?_
  first | refine go_aload_n (i := 0) X rfl rfl dc_M_finish_42 ?_ | refine go_aloadN_n (i := 0) X rfl rfl dc_M_finish_42 ?_
  refine gm_get X 22 (by decide) fl_M_68 rfl dc_M_finish_43 ?_
  refine go_iload_n (i := 1) X rfl rfl dc_M_finish_46 ?_
  refine gm_ld (f := upd (ρ 20) p (ρ 2 (ix_ (ρ 12 p)))) X rfl (by decide) (by assumption) dc_M_finish_47 ?_
  rw [pk_us]
  refine go_cV (C := rn_M) (ci := 7) (i := 0) (n := 1) (rest := [.int (nI p), .ref (ad 19)]) X hN (tm_replay l D T ad A nw K n (ρ := (u2_ (u2_ (u2_ ρ 8 p (ρ 12 p)) 9 p (-1)) 20 p (ρ 2 (ix_ (ρ 12 p))))) hK hJ hJ6) ml_M_126 im_M_replay sl_M_Mreplay ik_M co_M_replay ⟨rfl, by decide, by decide, by decide +kernel⟩ ⟨rfl, rfl, by decide, by decide⟩ rfl (wl_at (by decide)) rfl rfl (Nat.le_of_ble_eq_true rfl) dc_M_finish_48 ⟨Nat.zero_le _, Nat.zero_le _⟩ ?_
  refine gm_st X (by decide) (by assumption) dc_M_finish_51 ?_
  first | refine go_aload_n (i := 0) X rfl rfl dc_M_finish_52 ?_ | refine go_aloadN_n (i := 0) X rfl rfl dc_M_finish_52 ?_
  refine gm_get X 20 (by decide) fl_M_62 rfl dc_M_finish_53 ?_
  refine go_iload_n (i := 1) X rfl rfl dc_M_finish_56 ?_
  refine go_dup2 X rfl rfl dc_M_finish_57 ?_
  refine gm_ld (f := ρ 18) X rfl (by decide) (by assumption) dc_M_finish_58 ?_
  refine go_iconst (v := 1) X (by decide) dc_M_finish_59 ?_
  refine go_iadd X dc_M_finish_60 ?_
  refine gm_st X (by decide) (by assumption) dc_M_finish_61 ?_
  first | refine go_aload_n (i := 0) X rfl rfl dc_M_finish_62 ?_ | refine go_aloadN_n (i := 0) X rfl rfl dc_M_finish_62 ?_
  refine gm_get X 12 (by decide) fl_M_38 rfl dc_M_finish_63 ?_
  refine go_iload_n (i := 1) X rfl rfl dc_M_finish_66 ?_
  refine go_iconst (v := (-1)) X (by decide) dc_M_finish_67 ?_
  refine gm_st X (by decide) (by assumption) dc_M_finish_68 ?_
  refine go_iconst (v := 1) X (by decide) dc_M_finish_69 ?_
  exact go_iret X hr dc_M_finish_70 (congrArg (mW_ T ad K n) (by unfold hm_fin hm_fin1; rw [eJ]; rfl)) rfl
set_option maxHeartbeats 4000000 in
set_option maxRecDepth 20000 in
theorem tm_announce (l : Launch) (D : va_G) (T : Nat → ClassId) (ad : Nat → Nat) (A : Nat → Prop) (nw : List Cond) (K n : Nat) {ρ : ST_} {p : Nat} (hn : n ≤ 5) (hp : Ix_ (nI p) 5 p)  : cm_ l D T ad K n A nw yn_M_announce (.code yn_M_announce cd_M_announce 4 (some .int)) 0 [.int (nI p)] ρ (hm_ann ρ p).1 (some (.int (hm_ann ρ p).2)) := by
  refine go_in (by decide) (Nat.le_of_ble_eq_true rfl) (List.forall_mem_cons.mpr ⟨rfl, List.forall_mem_cons.mpr ⟨rfl, fun _ h => nomatch h⟩⟩) ?_
  intro P e s m args below meth c X hr hnm hN
  replace X : Cx_ P l e (rm_d 0) s m args below meth c cd_M_announce 4 rn_M D cl_ (tys_ T) TG_ := X
  refine go_loc (L' := [(0, .ref (ad 0)), (1, .int (nI p))]) rfl ?_
  refine go_iconst (v := (-1)) X (by decide) dc_M_announce_0 ?_
  refine go_istore_n (i := 2) X rfl (by decide) dc_M_announce_1 ?_
  refine go_bipush (v := dn_ 32) X (by decide) dc_M_announce_2 ?_
  refine go_istore_n (i := 3) X rfl (by decide) dc_M_announce_4 ?_
  refine go_loc (L' := [(0, .ref (ad 0)), (1, .int (nI p)), (2, .int (-1)), (3, .int (dn_ 32))]) rfl ?_
  refine (lp_dn (P := fun j => j ≤ 32 → ∀ r : Int32, fd_ (fun k => decide (ρ 1 k = 0)) j r = hm_free ρ → Go_ P l e (rm_d 0) s m args below meth c D cl_ A 4 0 0 _ (mW_ T ad K n ρ) 5 [(0, .ref (ad 0)), (1, .int (nI p)), (2, .int r), (3, .int (dn_ j))] []) (fun j ih hj r hr9 => ?_)) 32 (Nat.le_refl _) (-1) rfl
  refine go_iload_n (i := 3) X rfl rfl dc_M_announce_5 ?_
  refine go_if_lt (tgt := 30) X dc_M_announce_6 (by decide) (fun h6 => ?_) (fun h6 => ?_)
  · have j0 : j = 0 := (dn_neg (j := j) (by omega)).mp h6
    subst j0
    have er : r = hm_free ρ := hr9
    subst er
    refine go_iload_n (i := 2) X rfl rfl dc_M_announce_30 ?_
    refine go_if_ge (tgt := 36) X dc_M_announce_31 (by decide) (fun h31 => ?_) (fun h31 => ?_)
    · have hfr := hm_free_r ρ
      have hfx : Ix_ (hm_free ρ) 32 (ix_ (hm_free ρ)) := Ix_r (by rw [iz_le, iz_0] at h31; omega) hfr
      first | refine go_aload_n (i := 0) X rfl rfl dc_M_announce_36 ?_ | refine go_aloadN_n (i := 0) X rfl rfl dc_M_announce_36 ?_
      refine gm_get X 3 (by decide) fl_M_7 rfl dc_M_announce_37 ?_
      refine go_iload_n (i := 2) X rfl rfl dc_M_announce_40 ?_
      refine go_iconst (v := 1) X (by decide) dc_M_announce_41 ?_
      refine gm_zst X (by assumption) (by decide) dc_M_announce_42 ?_
      first | refine go_aload_n (i := 0) X rfl rfl dc_M_announce_43 ?_ | refine go_aloadN_n (i := 0) X rfl rfl dc_M_announce_43 ?_
      refine gm_get X 4 (by decide) fl_M_13 rfl dc_M_announce_44 ?_
      refine go_iload_n (i := 2) X rfl rfl dc_M_announce_47 ?_
      refine go_iconst (v := 0) X (by decide) dc_M_announce_48 ?_
      refine gm_st X (by decide) (by assumption) dc_M_announce_49 ?_
      first | refine go_aload_n (i := 0) X rfl rfl dc_M_announce_50 ?_ | refine go_aloadN_n (i := 0) X rfl rfl dc_M_announce_50 ?_
      refine gm_get X 5 (by decide) fl_M_17 rfl dc_M_announce_51 ?_
      refine go_iload_n (i := 2) X rfl rfl dc_M_announce_54 ?_
      refine go_iconst (v := (-1)) X (by decide) dc_M_announce_55 ?_
      refine gm_st X (by decide) (by assumption) dc_M_announce_56 ?_
      first | refine go_aload_n (i := 0) X rfl rfl dc_M_announce_57 ?_ | refine go_aloadN_n (i := 0) X rfl rfl dc_M_announce_57 ?_
      refine gm_get X 6 (by decide) fl_M_20 rfl dc_M_announce_58 ?_
      refine go_iload_n (i := 2) X rfl rfl dc_M_announce_61 ?_
      refine go_iload_n (i := 1) X rfl rfl dc_M_announce_62 ?_
      refine gm_st X (by decide) (by assumption) dc_M_announce_63 ?_
      first | refine go_aload_n (i := 0) X rfl rfl dc_M_announce_64 ?_ | refine go_aloadN_n (i := 0) X rfl rfl dc_M_announce_64 ?_
      refine gm_get X 7 (by decide) fl_M_23 rfl dc_M_announce_65 ?_
      refine go_iload_n (i := 2) X rfl rfl dc_M_announce_68 ?_
      first | refine go_aload_n (i := 0) X rfl rfl dc_M_announce_69 ?_ | refine go_aloadN_n (i := 0) X rfl rfl dc_M_announce_69 ?_
      refine gm_get X 17 (by decide) fl_M_53 rfl dc_M_announce_70 ?_
      refine go_iload_n (i := 1) X rfl rfl dc_M_announce_73 ?_
      refine gm_ld (f := ρ 15) X rfl (by decide) (by assumption) dc_M_announce_74 ?_
      refine gm_st X (by decide) (by assumption) dc_M_announce_75 ?_
      first | refine go_aload_n (i := 0) X rfl rfl dc_M_announce_76 ?_ | refine go_aloadN_n (i := 0) X rfl rfl dc_M_announce_76 ?_
      refine gm_get X 8 (by decide) fl_M_26 rfl dc_M_announce_77 ?_
      refine go_iload_n (i := 2) X rfl rfl dc_M_announce_80 ?_
      first | refine go_aload_n (i := 0) X rfl rfl dc_M_announce_81 ?_ | refine go_aloadN_n (i := 0) X rfl rfl dc_M_announce_81 ?_
      refine gm_get X 18 (by decide) fl_M_56 rfl dc_M_announce_82 ?_
      refine go_iload_n (i := 1) X rfl rfl dc_M_announce_85 ?_
      refine gm_ld (f := ρ 16) X rfl (by decide) (by assumption) dc_M_announce_86 ?_
      refine gm_st X (by decide) (by assumption) dc_M_announce_87 ?_
      first | refine go_aload_n (i := 0) X rfl rfl dc_M_announce_88 ?_ | refine go_aloadN_n (i := 0) X rfl rfl dc_M_announce_88 ?_
      refine gm_get X 9 (by decide) fl_M_29 rfl dc_M_announce_89 ?_
      refine go_iload_n (i := 2) X rfl rfl dc_M_announce_92 ?_
      first | refine go_aload_n (i := 0) X rfl rfl dc_M_announce_93 ?_ | refine go_aloadN_n (i := 0) X rfl rfl dc_M_announce_93 ?_
      refine gm_get X 19 (by decide) fl_M_59 rfl dc_M_announce_94 ?_
      refine go_iload_n (i := 1) X rfl rfl dc_M_announce_97 ?_
      refine gm_ld (f := ρ 17) X rfl (by decide) (by assumption) dc_M_announce_98 ?_
      refine gm_st X (by decide) (by assumption) dc_M_announce_99 ?_
      first | refine go_aload_n (i := 0) X rfl rfl dc_M_announce_100 ?_ | refine go_aloadN_n (i := 0) X rfl rfl dc_M_announce_100 ?_
      refine gm_get X 14 (by decide) fl_M_44 rfl dc_M_announce_101 ?_
      refine go_iload_n (i := 1) X rfl rfl dc_M_announce_104 ?_
      refine go_iload_n (i := 2) X rfl rfl dc_M_announce_105 ?_
      refine gm_st X (by decide) (by assumption) dc_M_announce_106 ?_
      first | refine go_aload_n (i := 0) X rfl rfl dc_M_announce_107 ?_ | refine go_aloadN_n (i := 0) X rfl rfl dc_M_announce_107 ?_
      refine gm_get X 11 (by decide) fl_M_35 rfl dc_M_announce_108 ?_
      refine go_iload_n (i := 1) X rfl rfl dc_M_announce_111 ?_
      refine go_iload_n (i := 2) X rfl rfl dc_M_announce_112 ?_
      refine gm_st X (by decide) (by assumption) dc_M_announce_113 ?_
      first | refine go_aload_n (i := 0) X rfl rfl dc_M_announce_114 ?_ | refine go_aloadN_n (i := 0) X rfl rfl dc_M_announce_114 ?_
      refine gm_get X 15 (by decide) fl_M_47 rfl dc_M_announce_115 ?_
      refine go_iload_n (i := 1) X rfl rfl dc_M_announce_118 ?_
      first | refine go_aload_n (i := 0) X rfl rfl dc_M_announce_119 ?_ | refine go_aloadN_n (i := 0) X rfl rfl dc_M_announce_119 ?_
      refine gm_get X 10 (by decide) fl_M_32 rfl dc_M_announce_120 ?_
      refine go_iload_n (i := 1) X rfl rfl dc_M_announce_123 ?_
      refine gm_ld (f := ρ 8) X rfl (by decide) (by assumption) dc_M_announce_124 ?_
      refine gm_st X (by decide) (by assumption) dc_M_announce_125 ?_
      first | refine go_aload_n (i := 0) X rfl rfl dc_M_announce_126 ?_ | refine go_aloadN_n (i := 0) X rfl rfl dc_M_announce_126 ?_
      refine gm_get X 13 (by decide) fl_M_41 rfl dc_M_announce_127 ?_
      refine go_iload_n (i := 1) X rfl rfl dc_M_announce_130 ?_
      refine go_iconst (v := 0) X (by decide) dc_M_announce_131 ?_
      refine gm_st X (by decide) (by assumption) dc_M_announce_132 ?_
      first | refine go_aload_n (i := 0) X rfl rfl dc_M_announce_133 ?_ | refine go_aloadN_n (i := 0) X rfl rfl dc_M_announce_133 ?_
      refine gm_get X 12 (by decide) fl_M_38 rfl dc_M_announce_134 ?_
      refine go_iload_n (i := 1) X rfl rfl dc_M_announce_137 ?_
      refine go_iconst (v := 1) X (by decide) dc_M_announce_138 ?_
      refine gm_st X (by decide) (by assumption) dc_M_announce_139 ?_
      refine go_iconst (v := 0) X (by decide) dc_M_announce_140 ?_
      exact go_iret X hr dc_M_announce_141 (congrArg (mW_ T ad K n) (by unfold hm_ann; rw [if_neg (by rw [iz_lt, iz_0]; rw [iz_le, iz_0] at h31; omega)]; rfl)) (congrArg some (congrArg Value.int (by unfold hm_ann; rw [if_neg (by rw [iz_lt, iz_0]; rw [iz_le, iz_0] at h31; omega)])))
    · refine go_iconst (v := 3) X (by decide) dc_M_announce_34 ?_
      exact go_iret X hr dc_M_announce_35 (congrArg (mW_ T ad K n) (by unfold hm_ann; rw [if_pos (by rw [iz_lt, iz_0]; rw [iz_le, iz_0] at h31; omega)])) (congrArg some (congrArg Value.int (by unfold hm_ann; rw [if_pos (by rw [iz_lt, iz_0]; rw [iz_le, iz_0] at h31; omega)])))
  · obtain ⟨i, rfl⟩ : ∃ i, j = i + 1 := ⟨j - 1, by have z : ¬ j = 0 := fun q => h6 ((dn_neg (j := j) (by omega)).mpr q); omega⟩
    have hx : Ix_ (dn_ (i + 1)) 32 i := Ix_n (by omega) (by decide)
    first | refine go_aload_n (i := 0) X rfl rfl dc_M_announce_9 ?_ | refine go_aloadN_n (i := 0) X rfl rfl dc_M_announce_9 ?_
    refine gm_get X 3 (by decide) fl_M_7 rfl dc_M_announce_10 ?_
    refine go_iload_n (i := 3) X rfl rfl dc_M_announce_13 ?_
    refine gm_zld (f := ρ 1) X rfl (by assumption) dc_M_announce_14 ?_
    refine go_if_eq (tgt := 22) X dc_M_announce_15 (by decide) (fun h15 => ?_) (fun h15 => ?_)
    · refine go_iload_n (i := 3) X rfl rfl dc_M_announce_22 ?_
      refine go_istore_n (i := 2) X rfl (by decide) dc_M_announce_23 ?_
      refine go_iinc (i := 3) (v := dn_ i) X rfl (dn_p i) (by decide) dc_M_announce_24 ?_
      refine go_goto (tgt := 5) X dc_M_announce_27 (by decide) ?_
      first | (refine go_loc (L' := [(0, .ref (ad 0)), (1, .int (nI p)), (2, .int (nI i)), (3, .int (dn_ i))]) rfl ?_; exact ih i rfl (by omega) _ (by rw [← hr9]; show _ = fd_ (fun k => decide (ρ 1 k = 0)) i (cond (decide (ρ 1 i = 0)) (nI i) r); rw [decide_eq_true h15]; rfl)) | (refine go_loc (L' := [(0, .ref (ad 0)), (1, .int (nI p)), (2, .int r), (3, .int (dn_ i))]) rfl ?_; exact ih i rfl (by omega) _ (by rw [← hr9]; show _ = fd_ (fun k => decide (ρ 1 k = 0)) i (cond (decide (ρ 1 i = 0)) (nI i) r); rw [decide_eq_false h15]; rfl))
    · refine go_iload_n (i := 2) X rfl rfl dc_M_announce_18 ?_
      refine go_goto (tgt := 23) X dc_M_announce_19 (by decide) ?_
      refine go_istore_n (i := 2) X rfl (by decide) dc_M_announce_23 ?_
      refine go_iinc (i := 3) (v := dn_ i) X rfl (dn_p i) (by decide) dc_M_announce_24 ?_
      refine go_goto (tgt := 5) X dc_M_announce_27 (by decide) ?_
      first | (refine go_loc (L' := [(0, .ref (ad 0)), (1, .int (nI p)), (2, .int (nI i)), (3, .int (dn_ i))]) rfl ?_; exact ih i rfl (by omega) _ (by rw [← hr9]; show _ = fd_ (fun k => decide (ρ 1 k = 0)) i (cond (decide (ρ 1 i = 0)) (nI i) r); rw [decide_eq_true h15]; rfl)) | (refine go_loc (L' := [(0, .ref (ad 0)), (1, .int (nI p)), (2, .int r), (3, .int (dn_ i))]) rfl ?_; exact ih i rfl (by omega) _ (by rw [← hr9]; show _ = fd_ (fun k => decide (ρ 1 k = 0)) i (cond (decide (ρ 1 i = 0)) (nI i) r); rw [decide_eq_false h15]; rfl))
end M3
end
section
section LQ_A
theorem ct_s (P : Nat → Bool) (k : Nat) : ct_ P (k + 1) = if P k = true then ct_ P k + 1 else ct_ P k := by
  show cond (P k) _ _ = _
  cases P k <;> rfl
theorem on_p {ρ : ST_} {k : Nat} : on_ ρ k = true ↔ ¬ ρ 1 k = 0 ∧ 0 < ρ 2 k := on_iff
theorem hm_old_s (ρ : ST_) (k : Nat) : hm_oldF ρ (k + 1) = if (¬ ρ 1 k = 0 ∧ 0 < ρ 2 k) ∧ (hm_oldF ρ k = 0 ∨ ρ 2 k < hm_oldF ρ k) then ρ 2 k else hm_oldF ρ k := by
  have h : hm_oldF ρ (k + 1) = cond (on_ ρ k && (decide (hm_oldF ρ k = 0) || decide (ρ 2 k < hm_oldF ρ k))) (ρ 2 k) (hm_oldF ρ k) := rfl
  rw [h]
  by_cases g : (¬ ρ 1 k = 0 ∧ 0 < ρ 2 k) ∧ (hm_oldF ρ k = 0 ∨ ρ 2 k < hm_oldF ρ k)
  · rw [if_pos g, on_p.mpr g.1]
    rcases g.2 with g2 | g2
    · rw [decide_eq_true g2]; rfl
    · rw [decide_eq_true g2, Bool.or_true]; rfl
  · rw [if_neg g]
    cases ho : on_ ρ k with
    | false => rfl
    | true =>
      have h1 : ¬ hm_oldF ρ k = 0 := fun q => g ⟨on_p.mp ho, Or.inl q⟩
      have h2 : ¬ ρ 2 k < hm_oldF ρ k := fun q => g ⟨on_p.mp ho, Or.inr q⟩
      rw [decide_eq_false h1, decide_eq_false h2]; rfl
theorem hm_find_s (ρ : ST_) (x : Int32) (k : Nat) : hm_findF ρ x (k + 1) = if ¬ ρ 1 k = 0 ∧ 0 < x ∧ ρ 2 k = x then nI k else hm_findF ρ x k := by
  have h : hm_findF ρ x (k + 1) = cond (decide (¬ ρ 1 k = 0) && decide (0 < x) && decide (ρ 2 k = x)) (nI k) (hm_findF ρ x k) := rfl
  rw [h]
  by_cases g : ¬ ρ 1 k = 0 ∧ 0 < x ∧ ρ 2 k = x
  · rw [if_pos g, decide_eq_true g.1, decide_eq_true g.2.1, decide_eq_true g.2.2]; rfl
  · rw [if_neg g]
    by_cases g1 : ρ 1 k = 0
    · rw [decide_eq_false (fun q => q g1)]; rfl
    · by_cases g2 : 0 < x
      · rw [decide_eq_false (fun q => g ⟨g1, g2, q⟩), Bool.and_false]; rfl
      · rw [decide_eq_false g2, Bool.and_false]; rfl
theorem hm_find_r (ρ : ST_) (x : Int32) : ∀ k, k ≤ 32 → -1 ≤ (hm_findF ρ x k).toInt ∧ (hm_findF ρ x k).toInt < 32 := by
  intro k
  induction k with
  | zero => intro _; show -1 ≤ (-1 : Int32).toInt ∧ (-1 : Int32).toInt < 32; rw [iz_m]; omega
  | succ k ih =>
    intro hk
    rw [hm_find_s]
    split
    · rw [iz_nI (by omega)]; omega
    · exact ih (by omega)
section
variable {l : Launch} {D : va_G} {T : Nat → ClassId} {ad : Nat → Nat} {A : Nat → Prop} {nw : List Cond} {K n : Nat} {ρ : ST_} {x : Int32}
theorem tm_isP1 (hv : 0 ≤ x ∧ x < nI n) : cm_ l D T ad K n A nw yn_M_isProcess (.code yn_M_isProcess cd_M_isProcess 2 (some .boolean)) 0 [.int x] ρ ρ (some (.int 1)) := by
  have h := tm_isProcess l D T ad A nw K n (ρ := ρ) (x := x)
  rw [if_pos hv] at h
  exact h
theorem tm_isP0 (hv : ¬ (0 ≤ x ∧ x < nI n)) : cm_ l D T ad K n A nw yn_M_isProcess (.code yn_M_isProcess cd_M_isProcess 2 (some .boolean)) 0 [.int x] ρ ρ (some (.int 0)) := by
  have h := tm_isProcess l D T ad A nw K n (ρ := ρ) (x := x)
  rw [if_neg hv] at h
  exact h
theorem tm_ref0 : cm_ l D T ad K n A nw yn_M_refused (.code yn_M_refused cd_M_refused 2 (some .boolean)) 0 [.int 0] ρ (u2_ ρ 0 0 0) (some (.int 0)) := by
  have h := tm_refused l D T ad A nw K n (ρ := ρ) (x := 0)
  rw [if_neg (by decide)] at h
  exact h
theorem tm_ref1 (hx : 0 < x) : cm_ l D T ad K n A nw yn_M_refused (.code yn_M_refused cd_M_refused 2 (some .boolean)) 0 [.int x] ρ (u2_ ρ 0 0 x) (some (.int 1)) := by
  have h := tm_refused l D T ad A nw K n (ρ := ρ) (x := x)
  rw [if_pos hx] at h
  exact h
end
theorem pv_n {p n : Nat} (hp : p < n) (hn : n ≤ 5) : 0 ≤ nI p ∧ nI p < nI n := ⟨nI_pos' (by omega), nI_lt hp (by omega)⟩
theorem hm_one_m (K n : Nat) {ρ : ST_} {p : Nat} (h : ρ 10 p = (-1)) : hm_one K n ρ p = (ρ, 2) := by
  unfold hm_one
  rw [if_pos h]
theorem hm_one_0 (K n : Nat) {ρ : ST_} {p : Nat} (h : ρ 10 p = 0) : hm_one K n ρ p = hm_ann ρ p := by
  unfold hm_one
  rw [if_neg (by rw [h]; decide), if_pos h]
theorem hm_one_1 (K n : Nat) {ρ : ST_} {p : Nat} (h : ρ 10 p = 1) : hm_one K n ρ p = (hm_look n ρ p, 0) := by
  unfold hm_one
  rw [if_neg (by rw [h]; decide), if_neg (by rw [h]; decide), if_pos h]
theorem hm_one_2 (K n : Nat) {ρ : ST_} {p : Nat} (h : ρ 10 p = 2) : hm_one K n ρ p = (hm_ask ρ p, 0) := by
  unfold hm_one
  rw [if_neg (by rw [h]; decide), if_neg (by rw [h]; decide), if_neg (by rw [h]; decide), if_pos h]
theorem hm_one_3 (K n : Nat) {ρ : ST_} {p : Nat} (h : ρ 10 p = 3) : hm_one K n ρ p = (hm_choose n ρ p, 0) := by
  unfold hm_one
  rw [if_neg (by rw [h]; decide), if_neg (by rw [h]; decide), if_neg (by rw [h]; decide), if_neg (by rw [h]; decide), if_pos h]
theorem hm_one_4 (K n : Nat) {ρ : ST_} {p : Nat} (h : ρ 10 p = 4) : hm_one K n ρ p = (hm_prop ρ p, 0) := by
  unfold hm_one
  rw [if_neg (by rw [h]; decide), if_neg (by rw [h]; decide), if_neg (by rw [h]; decide), if_neg (by rw [h]; decide), if_neg (by rw [h]; decide), if_pos h]
theorem hm_one_5 (K n : Nat) {ρ : ST_} {p : Nat} (h : ρ 10 p = 5) : hm_one K n ρ p = (hm_give ρ p, 0) := by
  unfold hm_one
  rw [if_neg (by rw [h]; decide), if_neg (by rw [h]; decide), if_neg (by rw [h]; decide), if_neg (by rw [h]; decide), if_neg (by rw [h]; decide), if_neg (by rw [h]; decide), if_pos h]
theorem hm_one_6 (K n : Nat) {ρ : ST_} {p : Nat} (h : ρ 10 p = 6) : hm_one K n ρ p = (hm_move ρ p, 0) := by
  unfold hm_one
  rw [if_neg (by rw [h]; decide), if_neg (by rw [h]; decide), if_neg (by rw [h]; decide), if_neg (by rw [h]; decide), if_neg (by rw [h]; decide), if_neg (by rw [h]; decide), if_neg (by rw [h]; decide), if_pos h]
theorem hm_one_7 (K n : Nat) {ρ : ST_} {p : Nat} (h : ρ 10 p = 7) : hm_one K n ρ p = (hm_fin K ρ p, 1) := by
  unfold hm_one
  rw [if_neg (by rw [h]; decide), if_neg (by rw [h]; decide), if_neg (by rw [h]; decide), if_neg (by rw [h]; decide), if_neg (by rw [h]; decide), if_neg (by rw [h]; decide), if_neg (by rw [h]; decide), if_neg (by rw [h]; decide)]
end LQ_A
end
section
section M4
set_option maxHeartbeats 4000000 in
set_option maxRecDepth 20000 in
theorem tm_one (l : Launch) (D : va_G) (T : Nat → ClassId) (ad : Nat → Nat) (A : Nat → Prop) (nw : List Cond) (K n : Nat) {ρ : ST_} {p : Nat} (hn : n ≤ 5) (hp : Ix_ (nI p) 5 p) (hK : K < 4) (hz : ¬ nI n = 0) (hO : Om_ n ρ p) : cm_ l D T ad K n A nw yn_M_one (.code yn_M_one cd_M_one 2 (some .int)) 4 [.int (nI p)] ρ (hm_one K n ρ p).1 (some (.int (hm_one K n ρ p).2)) := by
  obtain ⟨hst, h12, h13, h14, o1, o3, o5, o7⟩ := hO
  refine go_in (by decide) (Nat.le_of_ble_eq_true rfl) (List.forall_mem_cons.mpr ⟨rfl, List.forall_mem_cons.mpr ⟨rfl, fun _ h => nomatch h⟩⟩) ?_
  intro P e s m args below meth c X hr hnm hN
  replace X : Cx_ P l e (rm_d 4) s m args below meth c cd_M_one 2 rn_M D cl_ (tys_ T) TG_ := X
  refine go_loc (L' := [(0, .ref (ad 0)), (1, .int (nI p))]) rfl ?_
  first | refine go_aload_n (i := 0) X rfl rfl dc_M_one_0 ?_ | refine go_aloadN_n (i := 0) X rfl rfl dc_M_one_0 ?_
  refine gm_get X 12 (by decide) fl_M_38 rfl dc_M_one_1 ?_
  refine go_iload_n (i := 1) X rfl rfl dc_M_one_4 ?_
  refine gm_ld (f := ρ 10) X rfl (by decide) (by assumption) dc_M_one_5 ?_
  rcases st_cases hst with h | h | h | h | h | h | h | h | h
  · refine go_tableIn (off := 46) (tgt := 52) X dc_M_one_6 (by rw [h]; decide) (by rw [h]; decide) (by rw [h]; decide) (by decide) ?_
    refine go_iconst (v := 2) X (by decide) dc_M_one_52 ?_
    exact go_iret X hr dc_M_one_53 (congrArg (mW_ T ad K n) (by rw [hm_one_m K n h])) (congrArg some (congrArg Value.int (by rw [hm_one_m K n h])))
  · refine go_tableIn (off := 48) (tgt := 54) X dc_M_one_6 (by rw [h]; decide) (by rw [h]; decide) (by rw [h]; decide) (by decide) ?_
    first | refine go_aload_n (i := 0) X rfl rfl dc_M_one_54 ?_ | refine go_aloadN_n (i := 0) X rfl rfl dc_M_one_54 ?_
    refine go_iload_n (i := 1) X rfl rfl dc_M_one_55 ?_
    refine go_cV (C := rn_M) (ci := 7) (i := 0) (n := 1) (rest := []) X hN (tm_announce l D T ad A nw K n hn hp) ml_M_130 im_M_announce sl_M_Mannounce ik_M co_M_announce ⟨rfl, by decide, by decide, by decide +kernel⟩ ⟨rfl, rfl, by decide, by decide⟩ rfl (wl_at (by decide)) rfl rfl (Nat.le_of_ble_eq_true rfl) dc_M_one_56 ⟨Nat.zero_le _, Nat.zero_le _⟩ ?_
    exact go_iret X hr dc_M_one_59 (congrArg (mW_ T ad K n) (by rw [hm_one_0 K n h])) (congrArg some (congrArg Value.int (by rw [hm_one_0 K n h])))
  · refine go_tableIn (off := 54) (tgt := 60) X dc_M_one_6 (by rw [h]; decide) (by rw [h]; decide) (by rw [h]; decide) (by decide) ?_
    first | refine go_aload_n (i := 0) X rfl rfl dc_M_one_60 ?_ | refine go_aloadN_n (i := 0) X rfl rfl dc_M_one_60 ?_
    refine go_iload_n (i := 1) X rfl rfl dc_M_one_61 ?_
    refine go_cVv (C := rn_M) (ci := 7) (i := 0) (n := 1) (rest := []) X hN (tm_look l D T ad A nw K n hn hp (o1 h).1 (o1 h).2 h13) ml_M_133 im_M_look sl_M_Mlook ik_M co_M_look ⟨rfl, by decide, by decide, by decide +kernel⟩ ⟨rfl, rfl, by decide, by decide⟩ rfl (wl_at (by decide)) rfl rfl (Nat.le_of_ble_eq_true rfl) dc_M_one_62 ⟨Nat.zero_le _, Nat.zero_le _⟩ ?_
    refine go_goto (tgt := 161) X dc_M_one_65 (by decide) ?_
    refine go_iconst (v := 0) X (by decide) dc_M_one_161 ?_
    exact go_iret X hr dc_M_one_162 (congrArg (mW_ T ad K n) (by rw [hm_one_1 K n h])) (congrArg some (congrArg Value.int (by rw [hm_one_1 K n h])))
  · refine go_tableIn (off := 62) (tgt := 68) X dc_M_one_6 (by rw [h]; decide) (by rw [h]; decide) (by rw [h]; decide) (by decide) ?_
    first | refine go_aload_n (i := 0) X rfl rfl dc_M_one_68 ?_ | refine go_aloadN_n (i := 0) X rfl rfl dc_M_one_68 ?_
    refine gm_get X 12 (by decide) fl_M_38 rfl dc_M_one_69 ?_
    refine go_iload_n (i := 1) X rfl rfl dc_M_one_72 ?_
    first | refine go_aload_n (i := 0) X rfl rfl dc_M_one_73 ?_ | refine go_aloadN_n (i := 0) X rfl rfl dc_M_one_73 ?_
    refine gm_get X 4 (by decide) fl_M_13 rfl dc_M_one_74 ?_
    first | refine go_aload_n (i := 0) X rfl rfl dc_M_one_77 ?_ | refine go_aloadN_n (i := 0) X rfl rfl dc_M_one_77 ?_
    refine gm_get X 14 (by decide) fl_M_44 rfl dc_M_one_78 ?_
    refine go_iload_n (i := 1) X rfl rfl dc_M_one_81 ?_
    refine gm_ld (f := ρ 12) X rfl (by decide) (by assumption) dc_M_one_82 ?_
    refine gm_ld (f := ρ 2) X rfl (by decide) (by assumption) dc_M_one_83 ?_
    refine go_if_le (tgt := 92) X dc_M_one_84 (by decide) (fun h84 => ?_) (fun h84 => ?_)
    · refine go_iconst (v := 3) X (by decide) dc_M_one_92 ?_
      refine gm_st X (by decide) (by assumption) dc_M_one_93 ?_
      refine go_goto (tgt := 161) X dc_M_one_94 (by decide) ?_
      refine go_iconst (v := 0) X (by decide) dc_M_one_161 ?_
      exact go_iret X hr dc_M_one_162 (congrArg (mW_ T ad K n) (by rw [hm_one_2 K n h]; unfold hm_ask; simp only [iz_lt, iz_le, iz_eq, iz_0, iz_1, iz_2, iz_3, iz_4, iz_5, iz_6, iz_7, iz_8, iz_m] at h84 ⊢; (repeat' split) <;> first | with_reducible rfl | (exfalso; omega))) (congrArg some (congrArg Value.int (by rw [hm_one_2 K n h])))
    · refine go_bipush (v := 7) X (by decide) dc_M_one_87 ?_
      refine go_goto (tgt := 93) X dc_M_one_89 (by decide) ?_
      refine gm_st X (by decide) (by assumption) dc_M_one_93 ?_
      refine go_goto (tgt := 161) X dc_M_one_94 (by decide) ?_
      refine go_iconst (v := 0) X (by decide) dc_M_one_161 ?_
      exact go_iret X hr dc_M_one_162 (congrArg (mW_ T ad K n) (by rw [hm_one_2 K n h]; unfold hm_ask; simp only [iz_lt, iz_le, iz_eq, iz_0, iz_1, iz_2, iz_3, iz_4, iz_5, iz_6, iz_7, iz_8, iz_m] at h84 ⊢; (repeat' split) <;> first | with_reducible rfl | (exfalso; omega))) (congrArg some (congrArg Value.int (by rw [hm_one_2 K n h])))
  · refine go_tableIn (off := 91) (tgt := 97) X dc_M_one_6 (by rw [h]; decide) (by rw [h]; decide) (by rw [h]; decide) (by decide) ?_
    first | refine go_aload_n (i := 0) X rfl rfl dc_M_one_97 ?_ | refine go_aloadN_n (i := 0) X rfl rfl dc_M_one_97 ?_
    refine go_iload_n (i := 1) X rfl rfl dc_M_one_98 ?_
    refine go_cVv (C := rn_M) (ci := 7) (i := 0) (n := 1) (rest := []) X hN (tm_choose l D T ad A nw K n hn hp h13 hz (o3 h).1 (o3 h).2) ml_M_137 im_M_choose sl_M_Mchoose ik_M co_M_choose ⟨rfl, by decide, by decide, by decide +kernel⟩ ⟨rfl, rfl, by decide, by decide⟩ rfl (wl_at (by decide)) rfl rfl (Nat.le_of_ble_eq_true rfl) dc_M_one_99 ⟨Nat.zero_le _, Nat.zero_le _⟩ ?_
    refine go_goto (tgt := 161) X dc_M_one_102 (by decide) ?_
    refine go_iconst (v := 0) X (by decide) dc_M_one_161 ?_
    exact go_iret X hr dc_M_one_162 (congrArg (mW_ T ad K n) (by rw [hm_one_3 K n h])) (congrArg some (congrArg Value.int (by rw [hm_one_3 K n h])))
  · refine go_tableIn (off := 99) (tgt := 105) X dc_M_one_6 (by rw [h]; decide) (by rw [h]; decide) (by rw [h]; decide) (by decide) ?_
    first | refine go_aload_n (i := 0) X rfl rfl dc_M_one_105 ?_ | refine go_aloadN_n (i := 0) X rfl rfl dc_M_one_105 ?_
    refine go_iload_n (i := 1) X rfl rfl dc_M_one_106 ?_
    refine go_cVv (C := rn_M) (ci := 7) (i := 0) (n := 1) (rest := []) X hN (tm_propose l D T ad A nw K n hn hp h13) ml_M_140 im_M_propose sl_M_Mpropose ik_M co_M_propose ⟨rfl, by decide, by decide, by decide +kernel⟩ ⟨rfl, rfl, by decide, by decide⟩ rfl (wl_at (by decide)) rfl rfl (Nat.le_of_ble_eq_true rfl) dc_M_one_107 ⟨Nat.zero_le _, Nat.zero_le _⟩ ?_
    refine go_goto (tgt := 161) X dc_M_one_110 (by decide) ?_
    refine go_iconst (v := 0) X (by decide) dc_M_one_161 ?_
    exact go_iret X hr dc_M_one_162 (congrArg (mW_ T ad K n) (by rw [hm_one_4 K n h])) (congrArg some (congrArg Value.int (by rw [hm_one_4 K n h])))
  · refine go_tableIn (off := 107) (tgt := 113) X dc_M_one_6 (by rw [h]; decide) (by rw [h]; decide) (by rw [h]; decide) (by decide) ?_
    first | refine go_aload_n (i := 0) X rfl rfl dc_M_one_113 ?_ | refine go_aloadN_n (i := 0) X rfl rfl dc_M_one_113 ?_
    refine go_iload_n (i := 1) X rfl rfl dc_M_one_114 ?_
    refine go_cVv (C := rn_M) (ci := 7) (i := 0) (n := 1) (rest := []) X hN (tm_give l D T ad A nw K n hn hp h13 h14 (o5 h)) ml_M_143 im_M_give sl_M_Mgive ik_M co_M_give ⟨rfl, by decide, by decide, by decide +kernel⟩ ⟨rfl, rfl, by decide, by decide⟩ rfl (wl_at (by decide)) rfl rfl (Nat.le_of_ble_eq_true rfl) dc_M_one_115 ⟨Nat.zero_le _, Nat.zero_le _⟩ ?_
    refine go_goto (tgt := 161) X dc_M_one_118 (by decide) ?_
    refine go_iconst (v := 0) X (by decide) dc_M_one_161 ?_
    exact go_iret X hr dc_M_one_162 (congrArg (mW_ T ad K n) (by rw [hm_one_5 K n h])) (congrArg some (congrArg Value.int (by rw [hm_one_5 K n h])))
  · refine go_tableIn (off := 115) (tgt := 121) X dc_M_one_6 (by rw [h]; decide) (by rw [h]; decide) (by rw [h]; decide) (by decide) ?_
    first | refine go_aload_n (i := 0) X rfl rfl dc_M_one_121 ?_ | refine go_aloadN_n (i := 0) X rfl rfl dc_M_one_121 ?_
    refine gm_get X 10 (by decide) fl_M_32 rfl dc_M_one_122 ?_
    refine go_iload_n (i := 1) X rfl rfl dc_M_one_125 ?_
    first | refine go_aload_n (i := 0) X rfl rfl dc_M_one_126 ?_ | refine go_aloadN_n (i := 0) X rfl rfl dc_M_one_126 ?_
    refine gm_get X 16 (by decide) fl_M_50 rfl dc_M_one_127 ?_
    refine go_iload_n (i := 1) X rfl rfl dc_M_one_130 ?_
    refine gm_ld (f := ρ 14) X rfl (by decide) (by assumption) dc_M_one_131 ?_
    refine gm_st X (by decide) (by assumption) dc_M_one_132 ?_
    first | refine go_aload_n (i := 0) X rfl rfl dc_M_one_133 ?_ | refine go_aloadN_n (i := 0) X rfl rfl dc_M_one_133 ?_
    refine gm_get X 15 (by decide) fl_M_47 rfl dc_M_one_134 ?_
    refine go_iload_n (i := 1) X rfl rfl dc_M_one_137 ?_
    first | refine go_aload_n (i := 0) X rfl rfl dc_M_one_138 ?_ | refine go_aloadN_n (i := 0) X rfl rfl dc_M_one_138 ?_
    refine gm_get X 16 (by decide) fl_M_50 rfl dc_M_one_139 ?_
    refine go_iload_n (i := 1) X rfl rfl dc_M_one_142 ?_
    refine gm_ld (f := ρ 14) X rfl (by decide) (by assumption) dc_M_one_143 ?_
    refine gm_st X (by decide) (by assumption) dc_M_one_144 ?_
    first | refine go_aload_n (i := 0) X rfl rfl dc_M_one_145 ?_ | refine go_aloadN_n (i := 0) X rfl rfl dc_M_one_145 ?_
    refine gm_get X 12 (by decide) fl_M_38 rfl dc_M_one_146 ?_
    refine go_iload_n (i := 1) X rfl rfl dc_M_one_149 ?_
    refine go_iconst (v := 2) X (by decide) dc_M_one_150 ?_
    refine gm_st X (by decide) (by assumption) dc_M_one_151 ?_
    refine go_goto (tgt := 161) X dc_M_one_152 (by decide) ?_
    refine go_iconst (v := 0) X (by decide) dc_M_one_161 ?_
    exact go_iret X hr dc_M_one_162 (congrArg (mW_ T ad K n) (by rw [hm_one_6 K n h]; rfl)) (congrArg some (congrArg Value.int (by rw [hm_one_6 K n h])))
  · obtain ⟨J, hJ6, hJ⟩ := o7 h
    refine go_tableOut (tgt := 155) X dc_M_one_6 (by rw [h]; decide) (by decide) ?_
    first | refine go_aload_n (i := 0) X rfl rfl dc_M_one_155 ?_ | refine go_aloadN_n (i := 0) X rfl rfl dc_M_one_155 ?_
    refine go_iload_n (i := 1) X rfl rfl dc_M_one_156 ?_
    refine go_cV (C := rn_M) (ci := 7) (i := 0) (n := 1) (rest := []) X hN (tm_finish l D T ad A nw K n hn hp hK h12 hJ hJ6) ml_M_146 im_M_finish sl_M_Mfinish ik_M co_M_finish ⟨rfl, by decide, by decide, by decide +kernel⟩ ⟨rfl, rfl, by decide, by decide⟩ rfl (wl_at (by decide)) rfl rfl (Nat.le_of_ble_eq_true rfl) dc_M_one_157 ⟨Nat.zero_le _, Nat.zero_le _⟩ ?_
    exact go_iret X hr dc_M_one_160 (congrArg (mW_ T ad K n) (by rw [hm_one_7 K n h])) (congrArg some (congrArg Value.int (by rw [hm_one_7 K n h])))
set_option maxHeartbeats 4000000 in
set_option maxRecDepth 20000 in
theorem tm_stepX (l : Launch) (D : va_G) (T : Nat → ClassId) (ad : Nat → Nat) (A : Nat → Prop) (nw : List Cond) (K n : Nat) {ρ : ST_} {x : Int32} (hv : ¬ (0 ≤ x ∧ x < nI n)) : cm_ l D T ad K n A nw yn_M_step (.code yn_M_step cd_M_step 2 (some .int)) 5 [.int x] ρ (u2_ ρ 0 0 1) (some (.int 0)) := by
  refine go_in (by decide) (Nat.le_of_ble_eq_true rfl) (List.forall_mem_cons.mpr ⟨rfl, List.forall_mem_cons.mpr ⟨rfl, fun _ h => nomatch h⟩⟩) ?_
  intro P e s m args below meth c X hr hnm hN
  replace X : Cx_ P l e (rm_d 5) s m args below meth c cd_M_step 2 rn_M D cl_ (tys_ T) TG_ := X
  refine go_loc (L' := [(0, .ref (ad 0)), (1, .int x)]) rfl ?_
  first | refine go_aload_n (i := 0) X rfl rfl dc_M_step_0 ?_ | refine go_aloadN_n (i := 0) X rfl rfl dc_M_step_0 ?_
  first | refine go_aload_n (i := 0) X rfl rfl dc_M_step_1 ?_ | refine go_aloadN_n (i := 0) X rfl rfl dc_M_step_1 ?_
  refine go_iload_n (i := 1) X rfl rfl dc_M_step_2 ?_
  refine go_cV (C := rn_M) (ci := 7) (i := 0) (n := 1) (rest := [.ref (ad 0)]) X hN (tm_isP0 hv) ml_M_119 im_M_isProcess sl_M_MisProcess ik_M co_M_isProcess ⟨rfl, by decide, by decide, by decide +kernel⟩ ⟨rfl, rfl, by decide, by decide⟩ rfl (wl_at (by decide)) rfl rfl (Nat.le_of_ble_eq_true rfl) dc_M_step_3 ⟨Nat.zero_le _, Nat.zero_le _⟩ ?_
  refine go_if_eq (tgt := 13) X dc_M_step_6 (by decide) (fun h6 => ?_) (fun h6 => ?_)
  · refine go_iconst (v := 1) X (by decide) dc_M_step_13 ?_
    refine go_cV (C := rn_M) (ci := 7) (i := 0) (n := 1) (rest := []) X hN (tm_ref1 (x := 1) (by decide)) ml_M_123 im_M_refused sl_M_Mrefused ik_M co_M_refused ⟨rfl, by decide, by decide, by decide +kernel⟩ ⟨rfl, rfl, by decide, by decide⟩ rfl (wl_at (by decide)) rfl rfl (Nat.le_of_ble_eq_true rfl) dc_M_step_14 ⟨Nat.zero_le _, Nat.zero_le _⟩ ?_
    refine go_if_eq (tgt := 24) X dc_M_step_17 (by decide) (fun h17 => ?_) (fun h17 => ?_)
    · exact absurd h17 (by decide)
    · refine go_iconst (v := 0) X (by decide) dc_M_step_20 ?_
      refine go_goto (tgt := 29) X dc_M_step_21 (by decide) ?_
      exact go_iret X hr dc_M_step_29 rfl rfl
  · exact absurd rfl h6
set_option maxHeartbeats 4000000 in
set_option maxRecDepth 20000 in
theorem tm_step (l : Launch) (D : va_G) (T : Nat → ClassId) (ad : Nat → Nat) (A : Nat → Prop) (nw : List Cond) (K n : Nat) {ρ : ST_} {p : Nat} (hv : 0 ≤ nI p ∧ nI p < nI n) (hn : n ≤ 5) (hp : Ix_ (nI p) 5 p) (hK : K < 4) (hz : ¬ nI n = 0) (hO : Om_ n (u2_ ρ 0 0 0) p) : cm_ l D T ad K n A nw yn_M_step (.code yn_M_step cd_M_step 2 (some .int)) 5 [.int (nI p)] ρ (hm_one K n (u2_ ρ 0 0 0) p).1 (some (.int (hm_one K n (u2_ ρ 0 0 0) p).2)) := by
  refine go_in (by decide) (Nat.le_of_ble_eq_true rfl) (List.forall_mem_cons.mpr ⟨rfl, List.forall_mem_cons.mpr ⟨rfl, fun _ h => nomatch h⟩⟩) ?_
  intro P e s m args below meth c X hr hnm hN
  replace X : Cx_ P l e (rm_d 5) s m args below meth c cd_M_step 2 rn_M D cl_ (tys_ T) TG_ := X
  refine go_loc (L' := [(0, .ref (ad 0)), (1, .int (nI p))]) rfl ?_
  first | refine go_aload_n (i := 0) X rfl rfl dc_M_step_0 ?_ | refine go_aloadN_n (i := 0) X rfl rfl dc_M_step_0 ?_
  first | refine go_aload_n (i := 0) X rfl rfl dc_M_step_1 ?_ | refine go_aloadN_n (i := 0) X rfl rfl dc_M_step_1 ?_
  refine go_iload_n (i := 1) X rfl rfl dc_M_step_2 ?_
  refine go_cV (C := rn_M) (ci := 7) (i := 0) (n := 1) (rest := [.ref (ad 0)]) X hN (tm_isP1 hv) ml_M_119 im_M_isProcess sl_M_MisProcess ik_M co_M_isProcess ⟨rfl, by decide, by decide, by decide +kernel⟩ ⟨rfl, rfl, by decide, by decide⟩ rfl (wl_at (by decide)) rfl rfl (Nat.le_of_ble_eq_true rfl) dc_M_step_3 ⟨Nat.zero_le _, Nat.zero_le _⟩ ?_
  refine go_if_eq (tgt := 13) X dc_M_step_6 (by decide) (fun h6 => ?_) (fun h6 => ?_)
  · exact absurd h6 (by decide)
  · refine go_iconst (v := 0) X (by decide) dc_M_step_9 ?_
    refine go_goto (tgt := 14) X dc_M_step_10 (by decide) ?_
    refine go_cV (C := rn_M) (ci := 7) (i := 0) (n := 1) (rest := []) X hN (tm_ref0) ml_M_123 im_M_refused sl_M_Mrefused ik_M co_M_refused ⟨rfl, by decide, by decide, by decide +kernel⟩ ⟨rfl, rfl, by decide, by decide⟩ rfl (wl_at (by decide)) rfl rfl (Nat.le_of_ble_eq_true rfl) dc_M_step_14 ⟨Nat.zero_le _, Nat.zero_le _⟩ ?_
    refine go_if_eq (tgt := 24) X dc_M_step_17 (by decide) (fun h17 => ?_) (fun h17 => ?_)
    · first | refine go_aload_n (i := 0) X rfl rfl dc_M_step_24 ?_ | refine go_aloadN_n (i := 0) X rfl rfl dc_M_step_24 ?_
      refine go_iload_n (i := 1) X rfl rfl dc_M_step_25 ?_
      refine go_cV (C := rn_M) (ci := 7) (i := 0) (n := 1) (rest := []) X hN (tm_one l D T ad A nw K n (ρ := u2_ ρ 0 0 0) hn hp hK hz hO) ml_M_149 im_M_one sl_M_Mone ik_M co_M_one ⟨rfl, by decide, by decide, by decide +kernel⟩ ⟨rfl, rfl, by decide, by decide⟩ rfl (wl_at (by decide)) rfl rfl (Nat.le_of_ble_eq_true rfl) dc_M_step_26 ⟨Nat.zero_le _, Nat.zero_le _⟩ ?_
      exact go_iret X hr dc_M_step_29 rfl rfl
    · exact absurd rfl h17
set_option maxHeartbeats 4000000 in
set_option maxRecDepth 20000 in
theorem tm_doneX (l : Launch) (D : va_G) (T : Nat → ClassId) (ad : Nat → Nat) (A : Nat → Prop) (nw : List Cond) (K n : Nat) {ρ : ST_} {x : Int32} (hv : ¬ (0 ≤ x ∧ x < nI n)) : cm_ l D T ad K n A nw yn_M_done (.code yn_M_done cd_M_done 2 (some .int)) 1 [.int x] ρ (u2_ ρ 0 0 1) (some (.int 0)) := by
  refine go_in (by decide) (Nat.le_of_ble_eq_true rfl) (List.forall_mem_cons.mpr ⟨rfl, List.forall_mem_cons.mpr ⟨rfl, fun _ h => nomatch h⟩⟩) ?_
  intro P e s m args below meth c X hr hnm hN
  replace X : Cx_ P l e (rm_d 1) s m args below meth c cd_M_done 2 rn_M D cl_ (tys_ T) TG_ := X
  refine go_loc (L' := [(0, .ref (ad 0)), (1, .int x)]) rfl ?_
  first | refine go_aload_n (i := 0) X rfl rfl dc_M_done_0 ?_ | refine go_aloadN_n (i := 0) X rfl rfl dc_M_done_0 ?_
  first | refine go_aload_n (i := 0) X rfl rfl dc_M_done_1 ?_ | refine go_aloadN_n (i := 0) X rfl rfl dc_M_done_1 ?_
  refine go_iload_n (i := 1) X rfl rfl dc_M_done_2 ?_
  refine go_cV (C := rn_M) (ci := 7) (i := 0) (n := 1) (rest := [.ref (ad 0)]) X hN (tm_isP0 hv) ml_M_119 im_M_isProcess sl_M_MisProcess ik_M co_M_isProcess ⟨rfl, by decide, by decide, by decide +kernel⟩ ⟨rfl, rfl, by decide, by decide⟩ rfl (wl_at (by decide)) rfl rfl (Nat.le_of_ble_eq_true rfl) dc_M_done_3 ⟨Nat.zero_le _, Nat.zero_le _⟩ ?_
  refine go_if_eq (tgt := 13) X dc_M_done_6 (by decide) (fun h6 => ?_) (fun h6 => ?_)
  · refine go_iconst (v := 1) X (by decide) dc_M_done_13 ?_
    refine go_cV (C := rn_M) (ci := 7) (i := 0) (n := 1) (rest := []) X hN (tm_ref1 (x := 1) (by decide)) ml_M_123 im_M_refused sl_M_Mrefused ik_M co_M_refused ⟨rfl, by decide, by decide, by decide +kernel⟩ ⟨rfl, rfl, by decide, by decide⟩ rfl (wl_at (by decide)) rfl rfl (Nat.le_of_ble_eq_true rfl) dc_M_done_14 ⟨Nat.zero_le _, Nat.zero_le _⟩ ?_
    refine go_if_eq (tgt := 24) X dc_M_done_17 (by decide) (fun h17 => ?_) (fun h17 => ?_)
    · exact absurd h17 (by decide)
    · refine go_iconst (v := 0) X (by decide) dc_M_done_20 ?_
      refine go_goto (tgt := 30) X dc_M_done_21 (by decide) ?_
      exact go_iret X hr dc_M_done_30 rfl rfl
  · exact absurd rfl h6
set_option maxHeartbeats 4000000 in
set_option maxRecDepth 20000 in
theorem tm_done (l : Launch) (D : va_G) (T : Nat → ClassId) (ad : Nat → Nat) (A : Nat → Prop) (nw : List Cond) (K n : Nat) {ρ : ST_} {p : Nat} (hv : 0 ≤ nI p ∧ nI p < nI n) (hn : n ≤ 5) (hp : Ix_ (nI p) 5 p)  : cm_ l D T ad K n A nw yn_M_done (.code yn_M_done cd_M_done 2 (some .int)) 1 [.int (nI p)] ρ (u2_ ρ 0 0 0) (some (.int (ρ 18 p))) := by
  refine go_in (by decide) (Nat.le_of_ble_eq_true rfl) (List.forall_mem_cons.mpr ⟨rfl, List.forall_mem_cons.mpr ⟨rfl, fun _ h => nomatch h⟩⟩) ?_
  intro P e s m args below meth c X hr hnm hN
  replace X : Cx_ P l e (rm_d 1) s m args below meth c cd_M_done 2 rn_M D cl_ (tys_ T) TG_ := X
  refine go_loc (L' := [(0, .ref (ad 0)), (1, .int (nI p))]) rfl ?_
  first | refine go_aload_n (i := 0) X rfl rfl dc_M_done_0 ?_ | refine go_aloadN_n (i := 0) X rfl rfl dc_M_done_0 ?_
  first | refine go_aload_n (i := 0) X rfl rfl dc_M_done_1 ?_ | refine go_aloadN_n (i := 0) X rfl rfl dc_M_done_1 ?_
  refine go_iload_n (i := 1) X rfl rfl dc_M_done_2 ?_
  refine go_cV (C := rn_M) (ci := 7) (i := 0) (n := 1) (rest := [.ref (ad 0)]) X hN (tm_isP1 hv) ml_M_119 im_M_isProcess sl_M_MisProcess ik_M co_M_isProcess ⟨rfl, by decide, by decide, by decide +kernel⟩ ⟨rfl, rfl, by decide, by decide⟩ rfl (wl_at (by decide)) rfl rfl (Nat.le_of_ble_eq_true rfl) dc_M_done_3 ⟨Nat.zero_le _, Nat.zero_le _⟩ ?_
  refine go_if_eq (tgt := 13) X dc_M_done_6 (by decide) (fun h6 => ?_) (fun h6 => ?_)
  · exact absurd h6 (by decide)
  · refine go_iconst (v := 0) X (by decide) dc_M_done_9 ?_
    refine go_goto (tgt := 14) X dc_M_done_10 (by decide) ?_
    refine go_cV (C := rn_M) (ci := 7) (i := 0) (n := 1) (rest := []) X hN (tm_ref0) ml_M_123 im_M_refused sl_M_Mrefused ik_M co_M_refused ⟨rfl, by decide, by decide, by decide +kernel⟩ ⟨rfl, rfl, by decide, by decide⟩ rfl (wl_at (by decide)) rfl rfl (Nat.le_of_ble_eq_true rfl) dc_M_done_14 ⟨Nat.zero_le _, Nat.zero_le _⟩ ?_
    refine go_if_eq (tgt := 24) X dc_M_done_17 (by decide) (fun h17 => ?_) (fun h17 => ?_)
    · first | refine go_aload_n (i := 0) X rfl rfl dc_M_done_24 ?_ | refine go_aloadN_n (i := 0) X rfl rfl dc_M_done_24 ?_
      refine gm_get X 20 (by decide) fl_M_62 rfl dc_M_done_25 ?_
      refine go_iload_n (i := 1) X rfl rfl dc_M_done_28 ?_
      refine gm_ld (f := ρ 18) X rfl (by decide) (by assumption) dc_M_done_29 ?_
      exact go_iret X hr dc_M_done_30 rfl rfl
    · exact absurd rfl h17
set_option maxHeartbeats 4000000 in
set_option maxRecDepth 20000 in
theorem tm_placeOfX (l : Launch) (D : va_G) (T : Nat → ClassId) (ad : Nat → Nat) (A : Nat → Prop) (nw : List Cond) (K n : Nat) {ρ : ST_} {x : Int32} (hv : ¬ (0 ≤ x ∧ x < nI n)) : cm_ l D T ad K n A nw yn_M_placeOf (.code yn_M_placeOf cd_M_placeOf 2 (some .int)) 1 [.int x] ρ (u2_ ρ 0 0 1) (some (.int 0)) := by
  refine go_in (by decide) (Nat.le_of_ble_eq_true rfl) (List.forall_mem_cons.mpr ⟨rfl, List.forall_mem_cons.mpr ⟨rfl, fun _ h => nomatch h⟩⟩) ?_
  intro P e s m args below meth c X hr hnm hN
  replace X : Cx_ P l e (rm_d 1) s m args below meth c cd_M_placeOf 2 rn_M D cl_ (tys_ T) TG_ := X
  refine go_loc (L' := [(0, .ref (ad 0)), (1, .int x)]) rfl ?_
  first | refine go_aload_n (i := 0) X rfl rfl dc_M_placeOf_0 ?_ | refine go_aloadN_n (i := 0) X rfl rfl dc_M_placeOf_0 ?_
  first | refine go_aload_n (i := 0) X rfl rfl dc_M_placeOf_1 ?_ | refine go_aloadN_n (i := 0) X rfl rfl dc_M_placeOf_1 ?_
  refine go_iload_n (i := 1) X rfl rfl dc_M_placeOf_2 ?_
  refine go_cV (C := rn_M) (ci := 7) (i := 0) (n := 1) (rest := [.ref (ad 0)]) X hN (tm_isP0 hv) ml_M_119 im_M_isProcess sl_M_MisProcess ik_M co_M_isProcess ⟨rfl, by decide, by decide, by decide +kernel⟩ ⟨rfl, rfl, by decide, by decide⟩ rfl (wl_at (by decide)) rfl rfl (Nat.le_of_ble_eq_true rfl) dc_M_placeOf_3 ⟨Nat.zero_le _, Nat.zero_le _⟩ ?_
  refine go_if_eq (tgt := 13) X dc_M_placeOf_6 (by decide) (fun h6 => ?_) (fun h6 => ?_)
  · refine go_iconst (v := 1) X (by decide) dc_M_placeOf_13 ?_
    refine go_cV (C := rn_M) (ci := 7) (i := 0) (n := 1) (rest := []) X hN (tm_ref1 (x := 1) (by decide)) ml_M_123 im_M_refused sl_M_Mrefused ik_M co_M_refused ⟨rfl, by decide, by decide, by decide +kernel⟩ ⟨rfl, rfl, by decide, by decide⟩ rfl (wl_at (by decide)) rfl rfl (Nat.le_of_ble_eq_true rfl) dc_M_placeOf_14 ⟨Nat.zero_le _, Nat.zero_le _⟩ ?_
    refine go_if_eq (tgt := 24) X dc_M_placeOf_17 (by decide) (fun h17 => ?_) (fun h17 => ?_)
    · exact absurd h17 (by decide)
    · refine go_iconst (v := 0) X (by decide) dc_M_placeOf_20 ?_
      refine go_goto (tgt := 30) X dc_M_placeOf_21 (by decide) ?_
      exact go_iret X hr dc_M_placeOf_30 rfl rfl
  · exact absurd rfl h6
set_option maxHeartbeats 4000000 in
set_option maxRecDepth 20000 in
theorem tm_placeOf (l : Launch) (D : va_G) (T : Nat → ClassId) (ad : Nat → Nat) (A : Nat → Prop) (nw : List Cond) (K n : Nat) {ρ : ST_} {p : Nat} (hv : 0 ≤ nI p ∧ nI p < nI n) (hn : n ≤ 5) (hp : Ix_ (nI p) 5 p)  : cm_ l D T ad K n A nw yn_M_placeOf (.code yn_M_placeOf cd_M_placeOf 2 (some .int)) 1 [.int (nI p)] ρ (u2_ ρ 0 0 0) (some (.int (ρ 20 p))) := by
  refine go_in (by decide) (Nat.le_of_ble_eq_true rfl) (List.forall_mem_cons.mpr ⟨rfl, List.forall_mem_cons.mpr ⟨rfl, fun _ h => nomatch h⟩⟩) ?_
  intro P e s m args below meth c X hr hnm hN
  replace X : Cx_ P l e (rm_d 1) s m args below meth c cd_M_placeOf 2 rn_M D cl_ (tys_ T) TG_ := X
  refine go_loc (L' := [(0, .ref (ad 0)), (1, .int (nI p))]) rfl ?_
  first | refine go_aload_n (i := 0) X rfl rfl dc_M_placeOf_0 ?_ | refine go_aloadN_n (i := 0) X rfl rfl dc_M_placeOf_0 ?_
  first | refine go_aload_n (i := 0) X rfl rfl dc_M_placeOf_1 ?_ | refine go_aloadN_n (i := 0) X rfl rfl dc_M_placeOf_1 ?_
  refine go_iload_n (i := 1) X rfl rfl dc_M_placeOf_2 ?_
  refine go_cV (C := rn_M) (ci := 7) (i := 0) (n := 1) (rest := [.ref (ad 0)]) X hN (tm_isP1 hv) ml_M_119 im_M_isProcess sl_M_MisProcess ik_M co_M_isProcess ⟨rfl, by decide, by decide, by decide +kernel⟩ ⟨rfl, rfl, by decide, by decide⟩ rfl (wl_at (by decide)) rfl rfl (Nat.le_of_ble_eq_true rfl) dc_M_placeOf_3 ⟨Nat.zero_le _, Nat.zero_le _⟩ ?_
  refine go_if_eq (tgt := 13) X dc_M_placeOf_6 (by decide) (fun h6 => ?_) (fun h6 => ?_)
  · exact absurd h6 (by decide)
  · refine go_iconst (v := 0) X (by decide) dc_M_placeOf_9 ?_
    refine go_goto (tgt := 14) X dc_M_placeOf_10 (by decide) ?_
    refine go_cV (C := rn_M) (ci := 7) (i := 0) (n := 1) (rest := []) X hN (tm_ref0) ml_M_123 im_M_refused sl_M_Mrefused ik_M co_M_refused ⟨rfl, by decide, by decide, by decide +kernel⟩ ⟨rfl, rfl, by decide, by decide⟩ rfl (wl_at (by decide)) rfl rfl (Nat.le_of_ble_eq_true rfl) dc_M_placeOf_14 ⟨Nat.zero_le _, Nat.zero_le _⟩ ?_
    refine go_if_eq (tgt := 24) X dc_M_placeOf_17 (by decide) (fun h17 => ?_) (fun h17 => ?_)
    · first | refine go_aload_n (i := 0) X rfl rfl dc_M_placeOf_24 ?_ | refine go_aloadN_n (i := 0) X rfl rfl dc_M_placeOf_24 ?_
      refine gm_get X 22 (by decide) fl_M_68 rfl dc_M_placeOf_25 ?_
      refine go_iload_n (i := 1) X rfl rfl dc_M_placeOf_28 ?_
      refine gm_ld (f := ρ 20) X rfl (by decide) (by assumption) dc_M_placeOf_29 ?_
      exact go_iret X hr dc_M_placeOf_30 rfl rfl
    · exact absurd rfl h17
set_option maxHeartbeats 4000000 in
set_option maxRecDepth 20000 in
theorem tm_stageX (l : Launch) (D : va_G) (T : Nat → ClassId) (ad : Nat → Nat) (A : Nat → Prop) (nw : List Cond) (K n : Nat) {ρ : ST_} {x : Int32} (hv : ¬ (0 ≤ x ∧ x < nI n)) : cm_ l D T ad K n A nw yn_M_stage (.code yn_M_stage cd_M_stage 2 (some .int)) 1 [.int x] ρ (u2_ ρ 0 0 1) (some (.int 0)) := by
  refine go_in (by decide) (Nat.le_of_ble_eq_true rfl) (List.forall_mem_cons.mpr ⟨rfl, List.forall_mem_cons.mpr ⟨rfl, fun _ h => nomatch h⟩⟩) ?_
  intro P e s m args below meth c X hr hnm hN
  replace X : Cx_ P l e (rm_d 1) s m args below meth c cd_M_stage 2 rn_M D cl_ (tys_ T) TG_ := X
  refine go_loc (L' := [(0, .ref (ad 0)), (1, .int x)]) rfl ?_
  first | refine go_aload_n (i := 0) X rfl rfl dc_M_stage_0 ?_ | refine go_aloadN_n (i := 0) X rfl rfl dc_M_stage_0 ?_
  first | refine go_aload_n (i := 0) X rfl rfl dc_M_stage_1 ?_ | refine go_aloadN_n (i := 0) X rfl rfl dc_M_stage_1 ?_
  refine go_iload_n (i := 1) X rfl rfl dc_M_stage_2 ?_
  refine go_cV (C := rn_M) (ci := 7) (i := 0) (n := 1) (rest := [.ref (ad 0)]) X hN (tm_isP0 hv) ml_M_119 im_M_isProcess sl_M_MisProcess ik_M co_M_isProcess ⟨rfl, by decide, by decide, by decide +kernel⟩ ⟨rfl, rfl, by decide, by decide⟩ rfl (wl_at (by decide)) rfl rfl (Nat.le_of_ble_eq_true rfl) dc_M_stage_3 ⟨Nat.zero_le _, Nat.zero_le _⟩ ?_
  refine go_if_eq (tgt := 13) X dc_M_stage_6 (by decide) (fun h6 => ?_) (fun h6 => ?_)
  · refine go_iconst (v := 1) X (by decide) dc_M_stage_13 ?_
    refine go_cV (C := rn_M) (ci := 7) (i := 0) (n := 1) (rest := []) X hN (tm_ref1 (x := 1) (by decide)) ml_M_123 im_M_refused sl_M_Mrefused ik_M co_M_refused ⟨rfl, by decide, by decide, by decide +kernel⟩ ⟨rfl, rfl, by decide, by decide⟩ rfl (wl_at (by decide)) rfl rfl (Nat.le_of_ble_eq_true rfl) dc_M_stage_14 ⟨Nat.zero_le _, Nat.zero_le _⟩ ?_
    refine go_if_eq (tgt := 24) X dc_M_stage_17 (by decide) (fun h17 => ?_) (fun h17 => ?_)
    · exact absurd h17 (by decide)
    · refine go_iconst (v := 0) X (by decide) dc_M_stage_20 ?_
      refine go_goto (tgt := 30) X dc_M_stage_21 (by decide) ?_
      exact go_iret X hr dc_M_stage_30 rfl rfl
  · exact absurd rfl h6
set_option maxHeartbeats 4000000 in
set_option maxRecDepth 20000 in
theorem tm_stage (l : Launch) (D : va_G) (T : Nat → ClassId) (ad : Nat → Nat) (A : Nat → Prop) (nw : List Cond) (K n : Nat) {ρ : ST_} {p : Nat} (hv : 0 ≤ nI p ∧ nI p < nI n) (hn : n ≤ 5) (hp : Ix_ (nI p) 5 p)  : cm_ l D T ad K n A nw yn_M_stage (.code yn_M_stage cd_M_stage 2 (some .int)) 1 [.int (nI p)] ρ (u2_ ρ 0 0 0) (some (.int (ρ 10 p))) := by
  refine go_in (by decide) (Nat.le_of_ble_eq_true rfl) (List.forall_mem_cons.mpr ⟨rfl, List.forall_mem_cons.mpr ⟨rfl, fun _ h => nomatch h⟩⟩) ?_
  intro P e s m args below meth c X hr hnm hN
  replace X : Cx_ P l e (rm_d 1) s m args below meth c cd_M_stage 2 rn_M D cl_ (tys_ T) TG_ := X
  refine go_loc (L' := [(0, .ref (ad 0)), (1, .int (nI p))]) rfl ?_
  first | refine go_aload_n (i := 0) X rfl rfl dc_M_stage_0 ?_ | refine go_aloadN_n (i := 0) X rfl rfl dc_M_stage_0 ?_
  first | refine go_aload_n (i := 0) X rfl rfl dc_M_stage_1 ?_ | refine go_aloadN_n (i := 0) X rfl rfl dc_M_stage_1 ?_
  refine go_iload_n (i := 1) X rfl rfl dc_M_stage_2 ?_
  refine go_cV (C := rn_M) (ci := 7) (i := 0) (n := 1) (rest := [.ref (ad 0)]) X hN (tm_isP1 hv) ml_M_119 im_M_isProcess sl_M_MisProcess ik_M co_M_isProcess ⟨rfl, by decide, by decide, by decide +kernel⟩ ⟨rfl, rfl, by decide, by decide⟩ rfl (wl_at (by decide)) rfl rfl (Nat.le_of_ble_eq_true rfl) dc_M_stage_3 ⟨Nat.zero_le _, Nat.zero_le _⟩ ?_
  refine go_if_eq (tgt := 13) X dc_M_stage_6 (by decide) (fun h6 => ?_) (fun h6 => ?_)
  · exact absurd h6 (by decide)
  · refine go_iconst (v := 0) X (by decide) dc_M_stage_9 ?_
    refine go_goto (tgt := 14) X dc_M_stage_10 (by decide) ?_
    refine go_cV (C := rn_M) (ci := 7) (i := 0) (n := 1) (rest := []) X hN (tm_ref0) ml_M_123 im_M_refused sl_M_Mrefused ik_M co_M_refused ⟨rfl, by decide, by decide, by decide +kernel⟩ ⟨rfl, rfl, by decide, by decide⟩ rfl (wl_at (by decide)) rfl rfl (Nat.le_of_ble_eq_true rfl) dc_M_stage_14 ⟨Nat.zero_le _, Nat.zero_le _⟩ ?_
    refine go_if_eq (tgt := 24) X dc_M_stage_17 (by decide) (fun h17 => ?_) (fun h17 => ?_)
    · first | refine go_aload_n (i := 0) X rfl rfl dc_M_stage_24 ?_ | refine go_aloadN_n (i := 0) X rfl rfl dc_M_stage_24 ?_
      refine gm_get X 12 (by decide) fl_M_38 rfl dc_M_stage_25 ?_
      refine go_iload_n (i := 1) X rfl rfl dc_M_stage_28 ?_
      refine gm_ld (f := ρ 10) X rfl (by decide) (by assumption) dc_M_stage_29 ?_
      exact go_iret X hr dc_M_stage_30 rfl rfl
    · exact absurd rfl h17
set_option maxHeartbeats 4000000 in
set_option maxRecDepth 20000 in
theorem tm_headX (l : Launch) (D : va_G) (T : Nat → ClassId) (ad : Nat → Nat) (A : Nat → Prop) (nw : List Cond) (K n : Nat) {ρ : ST_} {x : Int32} (hv : ¬ (0 ≤ x ∧ x < nI n)) : cm_ l D T ad K n A nw yn_M_head (.code yn_M_head cd_M_head 2 (some .int)) 1 [.int x] ρ (u2_ ρ 0 0 1) (some (.int 0)) := by
  refine go_in (by decide) (Nat.le_of_ble_eq_true rfl) (List.forall_mem_cons.mpr ⟨rfl, List.forall_mem_cons.mpr ⟨rfl, fun _ h => nomatch h⟩⟩) ?_
  intro P e s m args below meth c X hr hnm hN
  replace X : Cx_ P l e (rm_d 1) s m args below meth c cd_M_head 2 rn_M D cl_ (tys_ T) TG_ := X
  refine go_loc (L' := [(0, .ref (ad 0)), (1, .int x)]) rfl ?_
  first | refine go_aload_n (i := 0) X rfl rfl dc_M_head_0 ?_ | refine go_aloadN_n (i := 0) X rfl rfl dc_M_head_0 ?_
  first | refine go_aload_n (i := 0) X rfl rfl dc_M_head_1 ?_ | refine go_aloadN_n (i := 0) X rfl rfl dc_M_head_1 ?_
  refine go_iload_n (i := 1) X rfl rfl dc_M_head_2 ?_
  refine go_cV (C := rn_M) (ci := 7) (i := 0) (n := 1) (rest := [.ref (ad 0)]) X hN (tm_isP0 hv) ml_M_119 im_M_isProcess sl_M_MisProcess ik_M co_M_isProcess ⟨rfl, by decide, by decide, by decide +kernel⟩ ⟨rfl, rfl, by decide, by decide⟩ rfl (wl_at (by decide)) rfl rfl (Nat.le_of_ble_eq_true rfl) dc_M_head_3 ⟨Nat.zero_le _, Nat.zero_le _⟩ ?_
  refine go_if_eq (tgt := 13) X dc_M_head_6 (by decide) (fun h6 => ?_) (fun h6 => ?_)
  · refine go_iconst (v := 1) X (by decide) dc_M_head_13 ?_
    refine go_cV (C := rn_M) (ci := 7) (i := 0) (n := 1) (rest := []) X hN (tm_ref1 (x := 1) (by decide)) ml_M_123 im_M_refused sl_M_Mrefused ik_M co_M_refused ⟨rfl, by decide, by decide, by decide +kernel⟩ ⟨rfl, rfl, by decide, by decide⟩ rfl (wl_at (by decide)) rfl rfl (Nat.le_of_ble_eq_true rfl) dc_M_head_14 ⟨Nat.zero_le _, Nat.zero_le _⟩ ?_
    refine go_if_eq (tgt := 24) X dc_M_head_17 (by decide) (fun h17 => ?_) (fun h17 => ?_)
    · exact absurd h17 (by decide)
    · refine go_iconst (v := 0) X (by decide) dc_M_head_20 ?_
      refine go_goto (tgt := 35) X dc_M_head_21 (by decide) ?_
      exact go_iret X hr dc_M_head_35 rfl rfl
  · exact absurd rfl h6
set_option maxHeartbeats 4000000 in
set_option maxRecDepth 20000 in
theorem tm_head (l : Launch) (D : va_G) (T : Nat → ClassId) (ad : Nat → Nat) (A : Nat → Prop) (nw : List Cond) (K n : Nat) {ρ : ST_} {p : Nat} (hv : 0 ≤ nI p ∧ nI p < nI n) (hn : n ≤ 5) (hp : Ix_ (nI p) 5 p) (h8 : Ix_ (ρ 8 p) 32 (ix_ (ρ 8 p))) : cm_ l D T ad K n A nw yn_M_head (.code yn_M_head cd_M_head 2 (some .int)) 1 [.int (nI p)] ρ (u2_ ρ 0 0 0) (some (.int (ρ 2 (ix_ (ρ 8 p))))) := by
  refine go_in (by decide) (Nat.le_of_ble_eq_true rfl) (List.forall_mem_cons.mpr ⟨rfl, List.forall_mem_cons.mpr ⟨rfl, fun _ h => nomatch h⟩⟩) ?_
  intro P e s m args below meth c X hr hnm hN
  replace X : Cx_ P l e (rm_d 1) s m args below meth c cd_M_head 2 rn_M D cl_ (tys_ T) TG_ := X
  refine go_loc (L' := [(0, .ref (ad 0)), (1, .int (nI p))]) rfl ?_
  first | refine go_aload_n (i := 0) X rfl rfl dc_M_head_0 ?_ | refine go_aloadN_n (i := 0) X rfl rfl dc_M_head_0 ?_
  first | refine go_aload_n (i := 0) X rfl rfl dc_M_head_1 ?_ | refine go_aloadN_n (i := 0) X rfl rfl dc_M_head_1 ?_
  refine go_iload_n (i := 1) X rfl rfl dc_M_head_2 ?_
  refine go_cV (C := rn_M) (ci := 7) (i := 0) (n := 1) (rest := [.ref (ad 0)]) X hN (tm_isP1 hv) ml_M_119 im_M_isProcess sl_M_MisProcess ik_M co_M_isProcess ⟨rfl, by decide, by decide, by decide +kernel⟩ ⟨rfl, rfl, by decide, by decide⟩ rfl (wl_at (by decide)) rfl rfl (Nat.le_of_ble_eq_true rfl) dc_M_head_3 ⟨Nat.zero_le _, Nat.zero_le _⟩ ?_
  refine go_if_eq (tgt := 13) X dc_M_head_6 (by decide) (fun h6 => ?_) (fun h6 => ?_)
  · exact absurd h6 (by decide)
  · refine go_iconst (v := 0) X (by decide) dc_M_head_9 ?_
    refine go_goto (tgt := 14) X dc_M_head_10 (by decide) ?_
    refine go_cV (C := rn_M) (ci := 7) (i := 0) (n := 1) (rest := []) X hN (tm_ref0) ml_M_123 im_M_refused sl_M_Mrefused ik_M co_M_refused ⟨rfl, by decide, by decide, by decide +kernel⟩ ⟨rfl, rfl, by decide, by decide⟩ rfl (wl_at (by decide)) rfl rfl (Nat.le_of_ble_eq_true rfl) dc_M_head_14 ⟨Nat.zero_le _, Nat.zero_le _⟩ ?_
    refine go_if_eq (tgt := 24) X dc_M_head_17 (by decide) (fun h17 => ?_) (fun h17 => ?_)
    · first | refine go_aload_n (i := 0) X rfl rfl dc_M_head_24 ?_ | refine go_aloadN_n (i := 0) X rfl rfl dc_M_head_24 ?_
      refine gm_get X 4 (by decide) fl_M_13 rfl dc_M_head_25 ?_
      first | refine go_aload_n (i := 0) X rfl rfl dc_M_head_28 ?_ | refine go_aloadN_n (i := 0) X rfl rfl dc_M_head_28 ?_
      refine gm_get X 10 (by decide) fl_M_32 rfl dc_M_head_29 ?_
      refine go_iload_n (i := 1) X rfl rfl dc_M_head_32 ?_
      refine gm_ld (f := ρ 8) X rfl (by decide) (by assumption) dc_M_head_33 ?_
      refine gm_ld (f := ρ 2) X rfl (by decide) (by assumption) dc_M_head_34 ?_
      exact go_iret X hr dc_M_head_35 rfl rfl
    · exact absurd rfl h17
set_option maxHeartbeats 4000000 in
set_option maxRecDepth 20000 in
theorem tm_answerX (l : Launch) (D : va_G) (T : Nat → ClassId) (ad : Nat → Nat) (A : Nat → Prop) (nw : List Cond) (K n : Nat) {ρ : ST_} {x : Int32} (hv : ¬ (0 ≤ x ∧ x < nI n)) : cm_ l D T ad K n A nw yn_M_answer (.code yn_M_answer cd_M_answer 2 (some .int)) 1 [.int x] ρ (u2_ ρ 0 0 1) (some (.int 0)) := by
  refine go_in (by decide) (Nat.le_of_ble_eq_true rfl) (List.forall_mem_cons.mpr ⟨rfl, List.forall_mem_cons.mpr ⟨rfl, fun _ h => nomatch h⟩⟩) ?_
  intro P e s m args below meth c X hr hnm hN
  replace X : Cx_ P l e (rm_d 1) s m args below meth c cd_M_answer 2 rn_M D cl_ (tys_ T) TG_ := X
  refine go_loc (L' := [(0, .ref (ad 0)), (1, .int x)]) rfl ?_
  first | refine go_aload_n (i := 0) X rfl rfl dc_M_answer_0 ?_ | refine go_aloadN_n (i := 0) X rfl rfl dc_M_answer_0 ?_
  first | refine go_aload_n (i := 0) X rfl rfl dc_M_answer_1 ?_ | refine go_aloadN_n (i := 0) X rfl rfl dc_M_answer_1 ?_
  refine go_iload_n (i := 1) X rfl rfl dc_M_answer_2 ?_
  refine go_cV (C := rn_M) (ci := 7) (i := 0) (n := 1) (rest := [.ref (ad 0)]) X hN (tm_isP0 hv) ml_M_119 im_M_isProcess sl_M_MisProcess ik_M co_M_isProcess ⟨rfl, by decide, by decide, by decide +kernel⟩ ⟨rfl, rfl, by decide, by decide⟩ rfl (wl_at (by decide)) rfl rfl (Nat.le_of_ble_eq_true rfl) dc_M_answer_3 ⟨Nat.zero_le _, Nat.zero_le _⟩ ?_
  refine go_if_ne (tgt := 13) X dc_M_answer_6 (by decide) (fun h6 => ?_) (fun h6 => ?_)
  · exact absurd rfl h6
  · refine go_iconst (v := 1) X (by decide) dc_M_answer_9 ?_
    refine go_goto (tgt := 27) X dc_M_answer_10 (by decide) ?_
    refine go_cV (C := rn_M) (ci := 7) (i := 0) (n := 1) (rest := []) X hN (tm_ref1 (x := 1) (by decide)) ml_M_123 im_M_refused sl_M_Mrefused ik_M co_M_refused ⟨rfl, by decide, by decide, by decide +kernel⟩ ⟨rfl, rfl, by decide, by decide⟩ rfl (wl_at (by decide)) rfl rfl (Nat.le_of_ble_eq_true rfl) dc_M_answer_27 ⟨Nat.zero_le _, Nat.zero_le _⟩ ?_
    refine go_if_eq (tgt := 37) X dc_M_answer_30 (by decide) (fun h30 => ?_) (fun h30 => ?_)
    · exact absurd h30 (by decide)
    · refine go_iconst (v := 0) X (by decide) dc_M_answer_33 ?_
      refine go_goto (tgt := 43) X dc_M_answer_34 (by decide) ?_
      exact go_iret X hr dc_M_answer_43 rfl rfl
set_option maxHeartbeats 4000000 in
set_option maxRecDepth 20000 in
theorem tm_answer (l : Launch) (D : va_G) (T : Nat → ClassId) (ad : Nat → Nat) (A : Nat → Prop) (nw : List Cond) (K n : Nat) {ρ : ST_} {p : Nat} (hv : 0 ≤ nI p ∧ nI p < nI n) (hn : n ≤ 5) (hp : Ix_ (nI p) 5 p) (hd : ¬ ρ 18 p = 0) : cm_ l D T ad K n A nw yn_M_answer (.code yn_M_answer cd_M_answer 2 (some .int)) 1 [.int (nI p)] ρ (u2_ ρ 0 0 0) (some (.int (ρ 19 p))) := by
  refine go_in (by decide) (Nat.le_of_ble_eq_true rfl) (List.forall_mem_cons.mpr ⟨rfl, List.forall_mem_cons.mpr ⟨rfl, fun _ h => nomatch h⟩⟩) ?_
  intro P e s m args below meth c X hr hnm hN
  replace X : Cx_ P l e (rm_d 1) s m args below meth c cd_M_answer 2 rn_M D cl_ (tys_ T) TG_ := X
  refine go_loc (L' := [(0, .ref (ad 0)), (1, .int (nI p))]) rfl ?_
  first | refine go_aload_n (i := 0) X rfl rfl dc_M_answer_0 ?_ | refine go_aloadN_n (i := 0) X rfl rfl dc_M_answer_0 ?_
  first | refine go_aload_n (i := 0) X rfl rfl dc_M_answer_1 ?_ | refine go_aloadN_n (i := 0) X rfl rfl dc_M_answer_1 ?_
  refine go_iload_n (i := 1) X rfl rfl dc_M_answer_2 ?_
  refine go_cV (C := rn_M) (ci := 7) (i := 0) (n := 1) (rest := [.ref (ad 0)]) X hN (tm_isP1 hv) ml_M_119 im_M_isProcess sl_M_MisProcess ik_M co_M_isProcess ⟨rfl, by decide, by decide, by decide +kernel⟩ ⟨rfl, rfl, by decide, by decide⟩ rfl (wl_at (by decide)) rfl rfl (Nat.le_of_ble_eq_true rfl) dc_M_answer_3 ⟨Nat.zero_le _, Nat.zero_le _⟩ ?_
  refine go_if_ne (tgt := 13) X dc_M_answer_6 (by decide) (fun h6 => ?_) (fun h6 => ?_)
  · first | refine go_aload_n (i := 0) X rfl rfl dc_M_answer_13 ?_ | refine go_aloadN_n (i := 0) X rfl rfl dc_M_answer_13 ?_
    refine gm_get X 20 (by decide) fl_M_62 rfl dc_M_answer_14 ?_
    refine go_iload_n (i := 1) X rfl rfl dc_M_answer_17 ?_
    refine gm_ld (f := ρ 18) X rfl (by decide) (by assumption) dc_M_answer_18 ?_
    refine go_if_ne (tgt := 26) X dc_M_answer_19 (by decide) (fun h19 => ?_) (fun h19 => ?_)
    · refine go_iconst (v := 0) X (by decide) dc_M_answer_26 ?_
      refine go_cV (C := rn_M) (ci := 7) (i := 0) (n := 1) (rest := []) X hN (tm_ref0) ml_M_123 im_M_refused sl_M_Mrefused ik_M co_M_refused ⟨rfl, by decide, by decide, by decide +kernel⟩ ⟨rfl, rfl, by decide, by decide⟩ rfl (wl_at (by decide)) rfl rfl (Nat.le_of_ble_eq_true rfl) dc_M_answer_27 ⟨Nat.zero_le _, Nat.zero_le _⟩ ?_
      refine go_if_eq (tgt := 37) X dc_M_answer_30 (by decide) (fun h30 => ?_) (fun h30 => ?_)
      · first | refine go_aload_n (i := 0) X rfl rfl dc_M_answer_37 ?_ | refine go_aloadN_n (i := 0) X rfl rfl dc_M_answer_37 ?_
        refine gm_get X 21 (by decide) fl_M_65 rfl dc_M_answer_38 ?_
        refine go_iload_n (i := 1) X rfl rfl dc_M_answer_41 ?_
        refine gm_ld (f := ρ 19) X rfl (by decide) (by assumption) dc_M_answer_42 ?_
        exact go_iret X hr dc_M_answer_43 rfl rfl
      · exact absurd rfl h30
    · exact absurd h19 hd
  · exact absurd h6 (by decide)
set_option maxHeartbeats 4000000 in
set_option maxRecDepth 20000 in
theorem tm_answer0 (l : Launch) (D : va_G) (T : Nat → ClassId) (ad : Nat → Nat) (A : Nat → Prop) (nw : List Cond) (K n : Nat) {ρ : ST_} {p : Nat} (hv : 0 ≤ nI p ∧ nI p < nI n) (hn : n ≤ 5) (hp : Ix_ (nI p) 5 p) (hd : ρ 18 p = 0) : cm_ l D T ad K n A nw yn_M_answer (.code yn_M_answer cd_M_answer 2 (some .int)) 1 [.int (nI p)] ρ (u2_ ρ 0 0 2) (some (.int 0)) := by
  refine go_in (by decide) (Nat.le_of_ble_eq_true rfl) (List.forall_mem_cons.mpr ⟨rfl, List.forall_mem_cons.mpr ⟨rfl, fun _ h => nomatch h⟩⟩) ?_
  intro P e s m args below meth c X hr hnm hN
  replace X : Cx_ P l e (rm_d 1) s m args below meth c cd_M_answer 2 rn_M D cl_ (tys_ T) TG_ := X
  refine go_loc (L' := [(0, .ref (ad 0)), (1, .int (nI p))]) rfl ?_
  first | refine go_aload_n (i := 0) X rfl rfl dc_M_answer_0 ?_ | refine go_aloadN_n (i := 0) X rfl rfl dc_M_answer_0 ?_
  first | refine go_aload_n (i := 0) X rfl rfl dc_M_answer_1 ?_ | refine go_aloadN_n (i := 0) X rfl rfl dc_M_answer_1 ?_
  refine go_iload_n (i := 1) X rfl rfl dc_M_answer_2 ?_
  refine go_cV (C := rn_M) (ci := 7) (i := 0) (n := 1) (rest := [.ref (ad 0)]) X hN (tm_isP1 hv) ml_M_119 im_M_isProcess sl_M_MisProcess ik_M co_M_isProcess ⟨rfl, by decide, by decide, by decide +kernel⟩ ⟨rfl, rfl, by decide, by decide⟩ rfl (wl_at (by decide)) rfl rfl (Nat.le_of_ble_eq_true rfl) dc_M_answer_3 ⟨Nat.zero_le _, Nat.zero_le _⟩ ?_
  refine go_if_ne (tgt := 13) X dc_M_answer_6 (by decide) (fun h6 => ?_) (fun h6 => ?_)
  · first | refine go_aload_n (i := 0) X rfl rfl dc_M_answer_13 ?_ | refine go_aloadN_n (i := 0) X rfl rfl dc_M_answer_13 ?_
    refine gm_get X 20 (by decide) fl_M_62 rfl dc_M_answer_14 ?_
    refine go_iload_n (i := 1) X rfl rfl dc_M_answer_17 ?_
    refine gm_ld (f := ρ 18) X rfl (by decide) (by assumption) dc_M_answer_18 ?_
    refine go_if_ne (tgt := 26) X dc_M_answer_19 (by decide) (fun h19 => ?_) (fun h19 => ?_)
    · exact absurd hd h19
    · refine go_iconst (v := 2) X (by decide) dc_M_answer_22 ?_
      refine go_goto (tgt := 27) X dc_M_answer_23 (by decide) ?_
      refine go_cV (C := rn_M) (ci := 7) (i := 0) (n := 1) (rest := []) X hN (tm_ref1 (x := 2) (by decide)) ml_M_123 im_M_refused sl_M_Mrefused ik_M co_M_refused ⟨rfl, by decide, by decide, by decide +kernel⟩ ⟨rfl, rfl, by decide, by decide⟩ rfl (wl_at (by decide)) rfl rfl (Nat.le_of_ble_eq_true rfl) dc_M_answer_27 ⟨Nat.zero_le _, Nat.zero_le _⟩ ?_
      refine go_if_eq (tgt := 37) X dc_M_answer_30 (by decide) (fun h30 => ?_) (fun h30 => ?_)
      · exact absurd h30 (by decide)
      · refine go_iconst (v := 0) X (by decide) dc_M_answer_33 ?_
        refine go_goto (tgt := 43) X dc_M_answer_34 (by decide) ?_
        exact go_iret X hr dc_M_answer_43 rfl rfl
  · exact absurd h6 (by decide)
end M4
end
section
section LR_A
def cp_ (f g : Nat → Int32) (j : Nat) : Nat → Int32 := fun k => if k < j then g k else f k
theorem cp_0 (f g : Nat → Int32) : cp_ f g 0 = f := by
  funext k; unfold cp_; rw [if_neg (by omega)]
theorem cp_s (f g : Nat → Int32) (j : Nat) : upd (cp_ f g j) j (g j) = cp_ f g (j + 1) := by
  funext k
  unfold cp_ upd
  by_cases e : k = j
  · subst e
    rw [if_pos rfl, if_pos (by omega)]
  · rw [if_neg e]
    dsimp only
    by_cases h : k < j
    · rw [if_pos h, if_pos (by omega)]
    · rw [if_neg h, if_neg (by omega)]
theorem cp_all {f g : Nat → Int32} {N j : Nat} (h : j < N) : cp_ f g N j = g j := by unfold cp_; rw [if_pos h]
theorem far_nI (ρ : ST_) : ∀ j, ∃ q, q ≤ j ∧ hm_farF ρ j = nI q := by
  intro j
  induction j with
  | zero => exact ⟨0, Nat.le_refl _, by show (0 : Int32) = nI 0; decide⟩
  | succ j ih =>
    obtain ⟨q, hq, e⟩ := ih
    have h : hm_farF ρ (j + 1) = if ρ 2 (ix_ (ρ 8 (ix_ (hm_farF ρ j)))) < ρ 2 (ix_ (ρ 8 (j + 1))) then nI (j + 1) else hm_farF ρ j := rfl
    rw [h]
    split
    · exact ⟨j + 1, Nat.le_refl _, rfl⟩
    · exact ⟨q, by omega, e⟩
theorem hm_far_s (ρ : ST_) (j : Nat) : hm_farF ρ (j + 1) = if ρ 2 (ix_ (ρ 8 (ix_ (hm_farF ρ j)))) < ρ 2 (ix_ (ρ 8 (j + 1))) then nI (j + 1) else hm_farF ρ j := rfl
theorem ml_s (ρ : ST_) (h l0 : Int32) (p : Nat) : ml_ ρ h l0 (p + 1) = if ρ 2 (ix_ (if ρ 10 p = -1 then h else ρ 8 p)) < ml_ ρ h l0 p then ρ 2 (ix_ (if ρ 10 p = -1 then h else ρ 8 p)) else ml_ ρ h l0 p := rfl
theorem br_self (ρ : ST_) (h : Int32) (j : Nat) : br_ ρ h j j = ρ 8 j := by unfold br_; rw [if_neg (by omega)]
theorem rl_self (ρ : ST_) (x : Int32) (j : Nat) : rl_ ρ x j j = ρ 1 j := by unfold rl_; rw [if_neg (by omega)]
/-- what a run of steps needs: a set of states that steps don't leave, in which they read within their arrays -/
def Rn_ (K n : Nat) (I : ST_ → Prop) : Prop := ∀ ρ, I ρ → ∀ q, q < n → Om_ n ρ q ∧ I (hm_one K n ρ q).1
theorem iz_1000 : (1000 : Int32).toInt = 1000 := by decide
theorem iz_32 : (32 : Int32).toInt = 32 := by decide
end LR_A
end
section
section M5
set_option maxHeartbeats 4000000 in
set_option maxRecDepth 20000 in
theorem tm_callX (l : Launch) (D : va_G) (T : Nat → ClassId) (ad : Nat → Nat) (A : Nat → Prop) (nw : List Cond) (K n : Nat) {ρ : ST_} {x : Int32} {op a b : Int32} (hv : ¬ (0 ≤ x ∧ x < nI n)) : cm_ l D T ad K n A nw yn_M_call (.code yn_M_call cd_M_call 5 none) 1 [.int x, .int op, .int a, .int b] ρ (u2_ ρ 0 0 1) none := by
  refine go_in (by decide) (Nat.le_of_ble_eq_true rfl) (List.forall_mem_cons.mpr ⟨rfl, List.forall_mem_cons.mpr ⟨rfl, List.forall_mem_cons.mpr ⟨rfl, List.forall_mem_cons.mpr ⟨rfl, List.forall_mem_cons.mpr ⟨rfl, fun _ h => nomatch h⟩⟩⟩⟩⟩) ?_
  intro P e s m args below meth c X hr hnm hN
  replace X : Cx_ P l e (rm_d 1) s m args below meth c cd_M_call 5 rn_M D cl_ (tys_ T) TG_ := X
  refine go_loc (L' := [(0, .ref (ad 0)), (1, .int x), (2, .int op), (3, .int a), (4, .int b)]) rfl ?_
  first | refine go_aload_n (i := 0) X rfl rfl dc_M_call_0 ?_ | refine go_aloadN_n (i := 0) X rfl rfl dc_M_call_0 ?_
  first | refine go_aload_n (i := 0) X rfl rfl dc_M_call_1 ?_ | refine go_aloadN_n (i := 0) X rfl rfl dc_M_call_1 ?_
  refine go_iload_n (i := 1) X rfl rfl dc_M_call_2 ?_
  refine go_cV (C := rn_M) (ci := 7) (i := 0) (n := 1) (rest := [.ref (ad 0)]) X hN (tm_isP0 hv) ml_M_119 im_M_isProcess sl_M_MisProcess ik_M co_M_isProcess ⟨rfl, by decide, by decide, by decide +kernel⟩ ⟨rfl, rfl, by decide, by decide⟩ rfl (wl_at (by decide)) rfl rfl (Nat.le_of_ble_eq_true rfl) dc_M_call_3 ⟨Nat.zero_le _, Nat.zero_le _⟩ ?_
  refine go_if_ne (tgt := 13) X dc_M_call_6 (by decide) (fun h6 => ?_) (fun h6 => ?_)
  · exact absurd rfl h6
  · refine go_iconst (v := 1) X (by decide) dc_M_call_9 ?_
    refine go_goto (tgt := 41) X dc_M_call_10 (by decide) ?_
    refine go_cV (C := rn_M) (ci := 7) (i := 0) (n := 1) (rest := []) X hN (tm_ref1 (x := 1) (by decide)) ml_M_123 im_M_refused sl_M_Mrefused ik_M co_M_refused ⟨rfl, by decide, by decide, by decide +kernel⟩ ⟨rfl, rfl, by decide, by decide⟩ rfl (wl_at (by decide)) rfl rfl (Nat.le_of_ble_eq_true rfl) dc_M_call_41 ⟨Nat.zero_le _, Nat.zero_le _⟩ ?_
    refine go_if_eq (tgt := 48) X dc_M_call_44 (by decide) (fun h44 => ?_) (fun h44 => ?_)
    · exact absurd h44 (by decide)
    · exact go_vret X hr dc_M_call_47 rfl rfl
set_option maxHeartbeats 4000000 in
set_option maxRecDepth 20000 in
theorem tm_callO (l : Launch) (D : va_G) (T : Nat → ClassId) (ad : Nat → Nat) (A : Nat → Prop) (nw : List Cond) (K n : Nat) {ρ : ST_} {p : Nat} {op a b : Int32} (hv : 0 ≤ nI p ∧ nI p < nI n) (hn : n ≤ 5) (hp : Ix_ (nI p) 5 p) (ho : ¬ (0 ≤ op ∧ op ≤ 2)) : cm_ l D T ad K n A nw yn_M_call (.code yn_M_call cd_M_call 5 none) 1 [.int (nI p), .int op, .int a, .int b] ρ (u2_ ρ 0 0 2) none := by
  refine go_in (by decide) (Nat.le_of_ble_eq_true rfl) (List.forall_mem_cons.mpr ⟨rfl, List.forall_mem_cons.mpr ⟨rfl, List.forall_mem_cons.mpr ⟨rfl, List.forall_mem_cons.mpr ⟨rfl, List.forall_mem_cons.mpr ⟨rfl, fun _ h => nomatch h⟩⟩⟩⟩⟩) ?_
  intro P e s m args below meth c X hr hnm hN
  replace X : Cx_ P l e (rm_d 1) s m args below meth c cd_M_call 5 rn_M D cl_ (tys_ T) TG_ := X
  refine go_loc (L' := [(0, .ref (ad 0)), (1, .int (nI p)), (2, .int op), (3, .int a), (4, .int b)]) rfl ?_
  first | refine go_aload_n (i := 0) X rfl rfl dc_M_call_0 ?_ | refine go_aloadN_n (i := 0) X rfl rfl dc_M_call_0 ?_
  first | refine go_aload_n (i := 0) X rfl rfl dc_M_call_1 ?_ | refine go_aloadN_n (i := 0) X rfl rfl dc_M_call_1 ?_
  refine go_iload_n (i := 1) X rfl rfl dc_M_call_2 ?_
  refine go_cV (C := rn_M) (ci := 7) (i := 0) (n := 1) (rest := [.ref (ad 0)]) X hN (tm_isP1 hv) ml_M_119 im_M_isProcess sl_M_MisProcess ik_M co_M_isProcess ⟨rfl, by decide, by decide, by decide +kernel⟩ ⟨rfl, rfl, by decide, by decide⟩ rfl (wl_at (by decide)) rfl rfl (Nat.le_of_ble_eq_true rfl) dc_M_call_3 ⟨Nat.zero_le _, Nat.zero_le _⟩ ?_
  refine go_if_ne (tgt := 13) X dc_M_call_6 (by decide) (fun h6 => ?_) (fun h6 => ?_)
  · refine go_iload_n (i := 2) X rfl rfl dc_M_call_13 ?_
    refine go_if_lt (tgt := 22) X dc_M_call_14 (by decide) (fun h14 => ?_) (fun h14 => ?_)
    · refine go_iconst (v := 2) X (by decide) dc_M_call_22 ?_
      refine go_goto (tgt := 41) X dc_M_call_23 (by decide) ?_
      refine go_cV (C := rn_M) (ci := 7) (i := 0) (n := 1) (rest := []) X hN (tm_ref1 (x := 2) (by decide)) ml_M_123 im_M_refused sl_M_Mrefused ik_M co_M_refused ⟨rfl, by decide, by decide, by decide +kernel⟩ ⟨rfl, rfl, by decide, by decide⟩ rfl (wl_at (by decide)) rfl rfl (Nat.le_of_ble_eq_true rfl) dc_M_call_41 ⟨Nat.zero_le _, Nat.zero_le _⟩ ?_
      refine go_if_eq (tgt := 48) X dc_M_call_44 (by decide) (fun h44 => ?_) (fun h44 => ?_)
      · exact absurd h44 (by decide)
      · exact go_vret X hr dc_M_call_47 rfl rfl
    · refine go_iload_n (i := 2) X rfl rfl dc_M_call_17 ?_
      refine go_iconst (v := 2) X (by decide) dc_M_call_18 ?_
      refine go_icmp_le (tgt := 26) X dc_M_call_19 (by decide) (fun h19 => ?_) (fun h19 => ?_)
      · exact absurd ⟨by rw [iz_le, iz_0]; rw [iz_lt, iz_0] at h14; omega, h19⟩ ho
      · refine go_iconst (v := 2) X (by decide) dc_M_call_22 ?_
        refine go_goto (tgt := 41) X dc_M_call_23 (by decide) ?_
        refine go_cV (C := rn_M) (ci := 7) (i := 0) (n := 1) (rest := []) X hN (tm_ref1 (x := 2) (by decide)) ml_M_123 im_M_refused sl_M_Mrefused ik_M co_M_refused ⟨rfl, by decide, by decide, by decide +kernel⟩ ⟨rfl, rfl, by decide, by decide⟩ rfl (wl_at (by decide)) rfl rfl (Nat.le_of_ble_eq_true rfl) dc_M_call_41 ⟨Nat.zero_le _, Nat.zero_le _⟩ ?_
        refine go_if_eq (tgt := 48) X dc_M_call_44 (by decide) (fun h44 => ?_) (fun h44 => ?_)
        · exact absurd h44 (by decide)
        · exact go_vret X hr dc_M_call_47 rfl rfl
  · exact absurd h6 (by decide)
set_option maxHeartbeats 4000000 in
set_option maxRecDepth 20000 in
theorem tm_callS (l : Launch) (D : va_G) (T : Nat → ClassId) (ad : Nat → Nat) (A : Nat → Prop) (nw : List Cond) (K n : Nat) {ρ : ST_} {p : Nat} {op a b : Int32} (hv : 0 ≤ nI p ∧ nI p < nI n) (hn : n ≤ 5) (hp : Ix_ (nI p) 5 p) (ho : 0 ≤ op ∧ op ≤ 2) (hs : ¬ ρ 10 p = -1) : cm_ l D T ad K n A nw yn_M_call (.code yn_M_call cd_M_call 5 none) 1 [.int (nI p), .int op, .int a, .int b] ρ (u2_ ρ 0 0 3) none := by
  refine go_in (by decide) (Nat.le_of_ble_eq_true rfl) (List.forall_mem_cons.mpr ⟨rfl, List.forall_mem_cons.mpr ⟨rfl, List.forall_mem_cons.mpr ⟨rfl, List.forall_mem_cons.mpr ⟨rfl, List.forall_mem_cons.mpr ⟨rfl, fun _ h => nomatch h⟩⟩⟩⟩⟩) ?_
  intro P e s m args below meth c X hr hnm hN
  replace X : Cx_ P l e (rm_d 1) s m args below meth c cd_M_call 5 rn_M D cl_ (tys_ T) TG_ := X
  refine go_loc (L' := [(0, .ref (ad 0)), (1, .int (nI p)), (2, .int op), (3, .int a), (4, .int b)]) rfl ?_
  first | refine go_aload_n (i := 0) X rfl rfl dc_M_call_0 ?_ | refine go_aloadN_n (i := 0) X rfl rfl dc_M_call_0 ?_
  first | refine go_aload_n (i := 0) X rfl rfl dc_M_call_1 ?_ | refine go_aloadN_n (i := 0) X rfl rfl dc_M_call_1 ?_
  refine go_iload_n (i := 1) X rfl rfl dc_M_call_2 ?_
  refine go_cV (C := rn_M) (ci := 7) (i := 0) (n := 1) (rest := [.ref (ad 0)]) X hN (tm_isP1 hv) ml_M_119 im_M_isProcess sl_M_MisProcess ik_M co_M_isProcess ⟨rfl, by decide, by decide, by decide +kernel⟩ ⟨rfl, rfl, by decide, by decide⟩ rfl (wl_at (by decide)) rfl rfl (Nat.le_of_ble_eq_true rfl) dc_M_call_3 ⟨Nat.zero_le _, Nat.zero_le _⟩ ?_
  refine go_if_ne (tgt := 13) X dc_M_call_6 (by decide) (fun h6 => ?_) (fun h6 => ?_)
  · refine go_iload_n (i := 2) X rfl rfl dc_M_call_13 ?_
    refine go_if_lt (tgt := 22) X dc_M_call_14 (by decide) (fun h14 => ?_) (fun h14 => ?_)
    · exfalso
      have z := ho.1
      rw [iz_le, iz_0] at z
      rw [iz_lt, iz_0] at h14
      omega
    · refine go_iload_n (i := 2) X rfl rfl dc_M_call_17 ?_
      refine go_iconst (v := 2) X (by decide) dc_M_call_18 ?_
      refine go_icmp_le (tgt := 26) X dc_M_call_19 (by decide) (fun h19 => ?_) (fun h19 => ?_)
      · first | refine go_aload_n (i := 0) X rfl rfl dc_M_call_26 ?_ | refine go_aloadN_n (i := 0) X rfl rfl dc_M_call_26 ?_
        refine gm_get X 12 (by decide) fl_M_38 rfl dc_M_call_27 ?_
        refine go_iload_n (i := 1) X rfl rfl dc_M_call_30 ?_
        refine gm_ld (f := ρ 10) X rfl (by decide) (by assumption) dc_M_call_31 ?_
        refine go_iconst (v := (-1)) X (by decide) dc_M_call_32 ?_
        refine go_icmp_eq (tgt := 40) X dc_M_call_33 (by decide) (fun h33 => ?_) (fun h33 => ?_)
        · exact absurd h33 hs
        · refine go_iconst (v := 3) X (by decide) dc_M_call_36 ?_
          refine go_goto (tgt := 41) X dc_M_call_37 (by decide) ?_
          refine go_cV (C := rn_M) (ci := 7) (i := 0) (n := 1) (rest := []) X hN (tm_ref1 (x := 3) (by decide)) ml_M_123 im_M_refused sl_M_Mrefused ik_M co_M_refused ⟨rfl, by decide, by decide, by decide +kernel⟩ ⟨rfl, rfl, by decide, by decide⟩ rfl (wl_at (by decide)) rfl rfl (Nat.le_of_ble_eq_true rfl) dc_M_call_41 ⟨Nat.zero_le _, Nat.zero_le _⟩ ?_
          refine go_if_eq (tgt := 48) X dc_M_call_44 (by decide) (fun h44 => ?_) (fun h44 => ?_)
          · exact absurd h44 (by decide)
          · exact go_vret X hr dc_M_call_47 rfl rfl
      · exact absurd ho.2 h19
  · exact absurd h6 (by decide)
set_option maxHeartbeats 4000000 in
set_option maxRecDepth 20000 in
theorem tm_call (l : Launch) (D : va_G) (T : Nat → ClassId) (ad : Nat → Nat) (A : Nat → Prop) (nw : List Cond) (K n : Nat) {ρ : ST_} {p : Nat} {op a b : Int32} (hv : 0 ≤ nI p ∧ nI p < nI n) (hn : n ≤ 5) (hp : Ix_ (nI p) 5 p) (ho : 0 ≤ op ∧ op ≤ 2) (hs : ρ 10 p = -1) : cm_ l D T ad K n A nw yn_M_call (.code yn_M_call cd_M_call 5 none) 1 [.int (nI p), .int op, .int a, .int b] ρ (hm_call (u2_ ρ 0 0 0) p op a b) none := by
  refine go_in (by decide) (Nat.le_of_ble_eq_true rfl) (List.forall_mem_cons.mpr ⟨rfl, List.forall_mem_cons.mpr ⟨rfl, List.forall_mem_cons.mpr ⟨rfl, List.forall_mem_cons.mpr ⟨rfl, List.forall_mem_cons.mpr ⟨rfl, fun _ h => nomatch h⟩⟩⟩⟩⟩) ?_
  intro P e s m args below meth c X hr hnm hN
  replace X : Cx_ P l e (rm_d 1) s m args below meth c cd_M_call 5 rn_M D cl_ (tys_ T) TG_ := X
  refine go_loc (L' := [(0, .ref (ad 0)), (1, .int (nI p)), (2, .int op), (3, .int a), (4, .int b)]) rfl ?_
  first | refine go_aload_n (i := 0) X rfl rfl dc_M_call_0 ?_ | refine go_aloadN_n (i := 0) X rfl rfl dc_M_call_0 ?_
  first | refine go_aload_n (i := 0) X rfl rfl dc_M_call_1 ?_ | refine go_aloadN_n (i := 0) X rfl rfl dc_M_call_1 ?_
  refine go_iload_n (i := 1) X rfl rfl dc_M_call_2 ?_
  refine go_cV (C := rn_M) (ci := 7) (i := 0) (n := 1) (rest := [.ref (ad 0)]) X hN (tm_isP1 hv) ml_M_119 im_M_isProcess sl_M_MisProcess ik_M co_M_isProcess ⟨rfl, by decide, by decide, by decide +kernel⟩ ⟨rfl, rfl, by decide, by decide⟩ rfl (wl_at (by decide)) rfl rfl (Nat.le_of_ble_eq_true rfl) dc_M_call_3 ⟨Nat.zero_le _, Nat.zero_le _⟩ ?_
  refine go_if_ne (tgt := 13) X dc_M_call_6 (by decide) (fun h6 => ?_) (fun h6 => ?_)
  · refine go_iload_n (i := 2) X rfl rfl dc_M_call_13 ?_
    refine go_if_lt (tgt := 22) X dc_M_call_14 (by decide) (fun h14 => ?_) (fun h14 => ?_)
    · exfalso
      have z := ho.1
      rw [iz_le, iz_0] at z
      rw [iz_lt, iz_0] at h14
      omega
    · refine go_iload_n (i := 2) X rfl rfl dc_M_call_17 ?_
      refine go_iconst (v := 2) X (by decide) dc_M_call_18 ?_
      refine go_icmp_le (tgt := 26) X dc_M_call_19 (by decide) (fun h19 => ?_) (fun h19 => ?_)
      · first | refine go_aload_n (i := 0) X rfl rfl dc_M_call_26 ?_ | refine go_aloadN_n (i := 0) X rfl rfl dc_M_call_26 ?_
        refine gm_get X 12 (by decide) fl_M_38 rfl dc_M_call_27 ?_
        refine go_iload_n (i := 1) X rfl rfl dc_M_call_30 ?_
        refine gm_ld (f := ρ 10) X rfl (by decide) (by assumption) dc_M_call_31 ?_
        refine go_iconst (v := (-1)) X (by decide) dc_M_call_32 ?_
        refine go_icmp_eq (tgt := 40) X dc_M_call_33 (by decide) (fun h33 => ?_) (fun h33 => ?_)
        · refine go_iconst (v := 0) X (by decide) dc_M_call_40 ?_
          refine go_cV (C := rn_M) (ci := 7) (i := 0) (n := 1) (rest := []) X hN (tm_ref0) ml_M_123 im_M_refused sl_M_Mrefused ik_M co_M_refused ⟨rfl, by decide, by decide, by decide +kernel⟩ ⟨rfl, rfl, by decide, by decide⟩ rfl (wl_at (by decide)) rfl rfl (Nat.le_of_ble_eq_true rfl) dc_M_call_41 ⟨Nat.zero_le _, Nat.zero_le _⟩ ?_
          refine go_if_eq (tgt := 48) X dc_M_call_44 (by decide) (fun h44 => ?_) (fun h44 => ?_)
          · first | refine go_aload_n (i := 0) X rfl rfl dc_M_call_48 ?_ | refine go_aloadN_n (i := 0) X rfl rfl dc_M_call_48 ?_
            refine gm_get X 12 (by decide) fl_M_38 rfl dc_M_call_49 ?_
            refine go_iload_n (i := 1) X rfl rfl dc_M_call_52 ?_
            refine go_iconst (v := 0) X (by decide) dc_M_call_53 ?_
            refine gm_st X (by decide) (by assumption) dc_M_call_54 ?_
            first | refine go_aload_n (i := 0) X rfl rfl dc_M_call_55 ?_ | refine go_aloadN_n (i := 0) X rfl rfl dc_M_call_55 ?_
            refine gm_get X 17 (by decide) fl_M_53 rfl dc_M_call_56 ?_
            refine go_iload_n (i := 1) X rfl rfl dc_M_call_59 ?_
            refine go_iload_n (i := 2) X rfl rfl dc_M_call_60 ?_
            refine gm_st X (by decide) (by assumption) dc_M_call_61 ?_
            first | refine go_aload_n (i := 0) X rfl rfl dc_M_call_62 ?_ | refine go_aloadN_n (i := 0) X rfl rfl dc_M_call_62 ?_
            refine gm_get X 18 (by decide) fl_M_56 rfl dc_M_call_63 ?_
            refine go_iload_n (i := 1) X rfl rfl dc_M_call_66 ?_
            refine go_iload_n (i := 3) X rfl rfl dc_M_call_67 ?_
            refine gm_st X (by decide) (by assumption) dc_M_call_68 ?_
            first | refine go_aload_n (i := 0) X rfl rfl dc_M_call_69 ?_ | refine go_aloadN_n (i := 0) X rfl rfl dc_M_call_69 ?_
            refine gm_get X 19 (by decide) fl_M_59 rfl dc_M_call_70 ?_
            refine go_iload_n (i := 1) X rfl rfl dc_M_call_73 ?_
            refine go_iload (i := 4) X rfl dc_M_call_74 ?_
            refine gm_st X (by decide) (by assumption) dc_M_call_76 ?_
            exact go_vret X hr dc_M_call_77 rfl rfl
          · exact absurd rfl h44
        · exact absurd hs h33
      · exact absurd ho.2 h19
  · exact absurd h6 (by decide)
set_option maxHeartbeats 4000000 in
set_option maxRecDepth 20000 in
theorem tm_inUseCount (l : Launch) (D : va_G) (T : Nat → ClassId) (ad : Nat → Nat) (A : Nat → Prop) (nw : List Cond) (K n : Nat) {ρ : ST_} : cm_ l D T ad K n A nw yn_M_inUseCount (.code yn_M_inUseCount cd_M_inUseCount 3 (some .int)) 0 [] ρ ρ (some (.int (hm_used ρ))) := by
  refine go_in (by decide) (Nat.le_of_ble_eq_true rfl) (List.forall_mem_cons.mpr ⟨rfl, fun _ h => nomatch h⟩) ?_
  intro P e s m args below meth c X hr hnm hN
  replace X : Cx_ P l e (rm_d 0) s m args below meth c cd_M_inUseCount 3 rn_M D cl_ (tys_ T) TG_ := X
  refine go_loc (L' := [(0, .ref (ad 0))]) rfl ?_
  refine go_iconst (v := 0) X (by decide) dc_M_inUseCount_0 ?_
  refine go_istore_n (i := 1) X rfl (by decide) dc_M_inUseCount_1 ?_
  refine go_iconst (v := nI 0) X (by decide) dc_M_inUseCount_2 ?_
  refine go_istore_n (i := 2) X rfl (by decide) dc_M_inUseCount_3 ?_
  refine go_loc (L' := [(0, .ref (ad 0)), (1, .int (ct_ (fun k => decide (¬ ρ 1 k = 0)) 0)), (2, .int (nI 0))]) rfl ?_
  refine (lp_up (P := fun j => Go_ P l e (rm_d 0) s m args below meth c D cl_ A 3 0 0 _ (mW_ T ad K n (ρ)) 4 [(0, .ref (ad 0)), (1, .int (ct_ (fun k => decide (¬ ρ 1 k = 0)) j)), (2, .int (nI j))] []) 32 (fun j hj ih => ?_)) 0 (Nat.zero_le _)
  refine go_iload_n (i := 2) X rfl rfl dc_M_inUseCount_4 ?_
  refine go_bipush (v := 32) X (by decide) dc_M_inUseCount_5 ?_
  refine go_icmp_ge (tgt := 33) X dc_M_inUseCount_7 (by decide) (fun h7 => ?_) (fun h7 => ?_)
  · have e32 : j = 32 := by rw [iz_le, iz_32, iz_nI (by omega)] at h7; omega
    subst e32
    refine go_iload_n (i := 1) X rfl rfl dc_M_inUseCount_33 ?_
    exact go_iret X hr dc_M_inUseCount_34 rfl rfl
  · have hlt : j < 32 := by rw [iz_le, iz_32, iz_nI (by omega)] at h7; omega
    have hx : Ix_ (nI j) 32 j := Ix_n hlt (by decide)
    first | refine go_aload_n (i := 0) X rfl rfl dc_M_inUseCount_10 ?_ | refine go_aloadN_n (i := 0) X rfl rfl dc_M_inUseCount_10 ?_
    refine gm_get X 3 (by decide) fl_M_7 rfl dc_M_inUseCount_11 ?_
    refine go_iload_n (i := 2) X rfl rfl dc_M_inUseCount_14 ?_
    refine gm_zld (f := ρ 1) X rfl (by assumption) dc_M_inUseCount_15 ?_
    refine go_if_eq (tgt := 25) X dc_M_inUseCount_16 (by decide) (fun h16 => ?_) (fun h16 => ?_)
    · refine go_iload_n (i := 1) X rfl rfl dc_M_inUseCount_25 ?_
      refine go_istore_n (i := 1) X rfl (by decide) dc_M_inUseCount_26 ?_
      refine go_iinc (i := 2) (v := nI (j + 1)) X rfl (by rw [lit1]; exact nI_1 j) (by decide) dc_M_inUseCount_27 ?_
      refine go_goto (tgt := 4) X dc_M_inUseCount_30 (by decide) ?_
      first | (have hc : ct_ (fun k => decide (¬ ρ 1 k = 0)) (j + 1) = ct_ (fun k => decide (¬ ρ 1 k = 0)) j := (by (rw [ct_s]; repeat' split) <;> first | with_reducible rfl | (exfalso; clear ih; (simp only [iz_lt, iz_le, iz_eq, iz_0, iz_1, iz_2, iz_3, iz_4, iz_5, iz_6, iz_7, iz_8, iz_m, decide_eq_true_eq, Bool.not_eq_true, decide_not, Bool.not_eq_eq_eq_not, Bool.not_true, decide_eq_false_iff_not] at *) <;> omega)); have ih2 := ih hlt; rw [hc] at ih2; refine go_loc (L' := [(0, .ref (ad 0)), (1, .int (ct_ (fun k => decide (¬ ρ 1 k = 0)) j)), (2, .int (nI (j + 1)))]) rfl ?_; exact ih2) | (have hc : ct_ (fun k => decide (¬ ρ 1 k = 0)) (j + 1) = ct_ (fun k => decide (¬ ρ 1 k = 0)) j + 1 := (by (rw [ct_s]; repeat' split) <;> first | with_reducible rfl | (exfalso; clear ih; (simp only [iz_lt, iz_le, iz_eq, iz_0, iz_1, iz_2, iz_3, iz_4, iz_5, iz_6, iz_7, iz_8, iz_m, decide_eq_true_eq, Bool.not_eq_true, decide_not, Bool.not_eq_eq_eq_not, Bool.not_true, decide_eq_false_iff_not] at *) <;> omega)); have ih2 := ih hlt; rw [hc] at ih2; refine go_loc (L' := [(0, .ref (ad 0)), (1, .int (ct_ (fun k => decide (¬ ρ 1 k = 0)) j + 1)), (2, .int (nI (j + 1)))]) rfl ?_; exact ih2)
    · refine go_iload_n (i := 1) X rfl rfl dc_M_inUseCount_19 ?_
      refine go_iconst (v := 1) X (by decide) dc_M_inUseCount_20 ?_
      refine go_iadd X dc_M_inUseCount_21 ?_
      refine go_goto (tgt := 26) X dc_M_inUseCount_22 (by decide) ?_
      refine go_istore_n (i := 1) X rfl (by decide) dc_M_inUseCount_26 ?_
      refine go_iinc (i := 2) (v := nI (j + 1)) X rfl (by rw [lit1]; exact nI_1 j) (by decide) dc_M_inUseCount_27 ?_
      refine go_goto (tgt := 4) X dc_M_inUseCount_30 (by decide) ?_
      first | (have hc : ct_ (fun k => decide (¬ ρ 1 k = 0)) (j + 1) = ct_ (fun k => decide (¬ ρ 1 k = 0)) j := (by (rw [ct_s]; repeat' split) <;> first | with_reducible rfl | (exfalso; clear ih; (simp only [iz_lt, iz_le, iz_eq, iz_0, iz_1, iz_2, iz_3, iz_4, iz_5, iz_6, iz_7, iz_8, iz_m, decide_eq_true_eq, Bool.not_eq_true, decide_not, Bool.not_eq_eq_eq_not, Bool.not_true, decide_eq_false_iff_not] at *) <;> omega)); have ih2 := ih hlt; rw [hc] at ih2; refine go_loc (L' := [(0, .ref (ad 0)), (1, .int (ct_ (fun k => decide (¬ ρ 1 k = 0)) j)), (2, .int (nI (j + 1)))]) rfl ?_; exact ih2) | (have hc : ct_ (fun k => decide (¬ ρ 1 k = 0)) (j + 1) = ct_ (fun k => decide (¬ ρ 1 k = 0)) j + 1 := (by (rw [ct_s]; repeat' split) <;> first | with_reducible rfl | (exfalso; clear ih; (simp only [iz_lt, iz_le, iz_eq, iz_0, iz_1, iz_2, iz_3, iz_4, iz_5, iz_6, iz_7, iz_8, iz_m, decide_eq_true_eq, Bool.not_eq_true, decide_not, Bool.not_eq_eq_eq_not, Bool.not_true, decide_eq_false_iff_not] at *) <;> omega)); have ih2 := ih hlt; rw [hc] at ih2; refine go_loc (L' := [(0, .ref (ad 0)), (1, .int (ct_ (fun k => decide (¬ ρ 1 k = 0)) j + 1)), (2, .int (nI (j + 1)))]) rfl ?_; exact ih2)
set_option maxHeartbeats 4000000 in
set_option maxRecDepth 20000 in
theorem tm_used (l : Launch) (D : va_G) (T : Nat → ClassId) (ad : Nat → Nat) (A : Nat → Prop) (nw : List Cond) (K n : Nat) {ρ : ST_} : cm_ l D T ad K n A nw yn_M_used (.code yn_M_used cd_M_used 1 (some .int)) 1 [] ρ (u2_ ρ 0 0 0) (some (.int (hm_used ρ))) := by
  refine go_in (by decide) (Nat.le_of_ble_eq_true rfl) (List.forall_mem_cons.mpr ⟨rfl, fun _ h => nomatch h⟩) ?_
  intro P e s m args below meth c X hr hnm hN
  replace X : Cx_ P l e (rm_d 1) s m args below meth c cd_M_used 1 rn_M D cl_ (tys_ T) TG_ := X
  refine go_loc (L' := [(0, .ref (ad 0))]) rfl ?_
  first | refine go_aload_n (i := 0) X rfl rfl dc_M_used_0 ?_ | refine go_aloadN_n (i := 0) X rfl rfl dc_M_used_0 ?_
  refine go_iconst (v := 0) X (by decide) dc_M_used_1 ?_
  refine gm_put X 0 0 (by decide) fl_M_99 rfl (tk_M 0 (by decide)) (mF_s0 _ _ _ _ _) dc_M_used_2 ?_
  first | refine go_aload_n (i := 0) X rfl rfl dc_M_used_5 ?_ | refine go_aloadN_n (i := 0) X rfl rfl dc_M_used_5 ?_
  refine go_cV (C := rn_M) (ci := 7) (i := 0) (n := 0) (rest := []) X hN (tm_inUseCount l D T ad A nw K n) ml_M_157 im_M_inUseCount sl_M_MinUseCount ik_M co_M_inUseCount ⟨rfl, by decide, by decide, by decide +kernel⟩ ⟨rfl, rfl, by decide, by decide⟩ rfl (wl_at (by decide)) rfl rfl (Nat.le_of_ble_eq_true rfl) dc_M_used_6 ⟨Nat.zero_le _, Nat.zero_le _⟩ ?_
  exact go_iret X hr dc_M_used_9 rfl rfl
set_option maxHeartbeats 4000000 in
set_option maxRecDepth 20000 in
theorem tm_leastInUse (l : Launch) (D : va_G) (T : Nat → ClassId) (ad : Nat → Nat) (A : Nat → Prop) (nw : List Cond) (K n : Nat) {ρ : ST_} : cm_ l D T ad K n A nw yn_M_leastInUse (.code yn_M_leastInUse cd_M_leastInUse 3 (some .int)) 0 [] ρ ρ (some (.int (hm_oldF ρ 32))) := by
  refine go_in (by decide) (Nat.le_of_ble_eq_true rfl) (List.forall_mem_cons.mpr ⟨rfl, fun _ h => nomatch h⟩) ?_
  intro P e s m args below meth c X hr hnm hN
  replace X : Cx_ P l e (rm_d 0) s m args below meth c cd_M_leastInUse 3 rn_M D cl_ (tys_ T) TG_ := X
  refine go_loc (L' := [(0, .ref (ad 0))]) rfl ?_
  refine go_iconst (v := 0) X (by decide) dc_M_leastInUse_0 ?_
  refine go_istore_n (i := 1) X rfl (by decide) dc_M_leastInUse_1 ?_
  refine go_iconst (v := nI 0) X (by decide) dc_M_leastInUse_2 ?_
  refine go_istore_n (i := 2) X rfl (by decide) dc_M_leastInUse_3 ?_
  refine go_loc (L' := [(0, .ref (ad 0)), (1, .int (hm_oldF ρ 0)), (2, .int (nI 0))]) rfl ?_
  refine (lp_up (P := fun j => Go_ P l e (rm_d 0) s m args below meth c D cl_ A 3 0 0 _ (mW_ T ad K n (ρ)) 4 [(0, .ref (ad 0)), (1, .int (hm_oldF ρ j)), (2, .int (nI j))] []) 32 (fun j hj ih => ?_)) 0 (Nat.zero_le _)
  refine go_iload_n (i := 2) X rfl rfl dc_M_leastInUse_4 ?_
  refine go_bipush (v := 32) X (by decide) dc_M_leastInUse_5 ?_
  refine go_icmp_ge (tgt := 59) X dc_M_leastInUse_7 (by decide) (fun h7 => ?_) (fun h7 => ?_)
  · have e32 : j = 32 := by rw [iz_le, iz_32, iz_nI (by omega)] at h7; omega
    subst e32
    refine go_iload_n (i := 1) X rfl rfl dc_M_leastInUse_59 ?_
    exact go_iret X hr dc_M_leastInUse_60 rfl rfl
  · have hlt : j < 32 := by rw [iz_le, iz_32, iz_nI (by omega)] at h7; omega
    have hx : Ix_ (nI j) 32 j := Ix_n hlt (by decide)
    first | refine go_aload_n (i := 0) X rfl rfl dc_M_leastInUse_10 ?_ | refine go_aloadN_n (i := 0) X rfl rfl dc_M_leastInUse_10 ?_
    refine gm_get X 3 (by decide) fl_M_7 rfl dc_M_leastInUse_11 ?_
    refine go_iload_n (i := 2) X rfl rfl dc_M_leastInUse_14 ?_
    refine gm_zld (f := ρ 1) X rfl (by assumption) dc_M_leastInUse_15 ?_
    refine go_if_eq (tgt := 51) X dc_M_leastInUse_16 (by decide) (fun h16 => ?_) (fun h16 => ?_)
    · refine go_iload_n (i := 1) X rfl rfl dc_M_leastInUse_51 ?_
      refine go_istore_n (i := 1) X rfl (by decide) dc_M_leastInUse_52 ?_
      refine go_iinc (i := 2) (v := nI (j + 1)) X rfl (by rw [lit1]; exact nI_1 j) (by decide) dc_M_leastInUse_53 ?_
      refine go_goto (tgt := 4) X dc_M_leastInUse_56 (by decide) ?_
      first | (have hc : hm_oldF ρ (j + 1) = hm_oldF ρ j := (by (rw [hm_old_s]; repeat' split) <;> first | with_reducible rfl | (exfalso; clear ih; (simp only [iz_lt, iz_le, iz_eq, iz_0, iz_1, iz_2, iz_3, iz_4, iz_5, iz_6, iz_7, iz_8, iz_m, decide_eq_true_eq, Bool.not_eq_true, decide_not, Bool.not_eq_eq_eq_not, Bool.not_true, decide_eq_false_iff_not] at *) <;> omega)); have ih2 := ih hlt; rw [hc] at ih2; refine go_loc (L' := [(0, .ref (ad 0)), (1, .int (hm_oldF ρ j)), (2, .int (nI (j + 1)))]) rfl ?_; exact ih2) | (have hc : hm_oldF ρ (j + 1) = ρ 2 j := (by (rw [hm_old_s]; repeat' split) <;> first | with_reducible rfl | (exfalso; clear ih; (simp only [iz_lt, iz_le, iz_eq, iz_0, iz_1, iz_2, iz_3, iz_4, iz_5, iz_6, iz_7, iz_8, iz_m, decide_eq_true_eq, Bool.not_eq_true, decide_not, Bool.not_eq_eq_eq_not, Bool.not_true, decide_eq_false_iff_not] at *) <;> omega)); have ih2 := ih hlt; rw [hc] at ih2; refine go_loc (L' := [(0, .ref (ad 0)), (1, .int (ρ 2 j)), (2, .int (nI (j + 1)))]) rfl ?_; exact ih2)
    · first | refine go_aload_n (i := 0) X rfl rfl dc_M_leastInUse_19 ?_ | refine go_aloadN_n (i := 0) X rfl rfl dc_M_leastInUse_19 ?_
      refine gm_get X 4 (by decide) fl_M_13 rfl dc_M_leastInUse_20 ?_
      refine go_iload_n (i := 2) X rfl rfl dc_M_leastInUse_23 ?_
      refine gm_ld (f := ρ 2) X rfl (by decide) (by assumption) dc_M_leastInUse_24 ?_
      refine go_if_le (tgt := 51) X dc_M_leastInUse_25 (by decide) (fun h25 => ?_) (fun h25 => ?_)
      · refine go_iload_n (i := 1) X rfl rfl dc_M_leastInUse_51 ?_
        refine go_istore_n (i := 1) X rfl (by decide) dc_M_leastInUse_52 ?_
        refine go_iinc (i := 2) (v := nI (j + 1)) X rfl (by rw [lit1]; exact nI_1 j) (by decide) dc_M_leastInUse_53 ?_
        refine go_goto (tgt := 4) X dc_M_leastInUse_56 (by decide) ?_
        first | (have hc : hm_oldF ρ (j + 1) = hm_oldF ρ j := (by (rw [hm_old_s]; repeat' split) <;> first | with_reducible rfl | (exfalso; clear ih; (simp only [iz_lt, iz_le, iz_eq, iz_0, iz_1, iz_2, iz_3, iz_4, iz_5, iz_6, iz_7, iz_8, iz_m, decide_eq_true_eq, Bool.not_eq_true, decide_not, Bool.not_eq_eq_eq_not, Bool.not_true, decide_eq_false_iff_not] at *) <;> omega)); have ih2 := ih hlt; rw [hc] at ih2; refine go_loc (L' := [(0, .ref (ad 0)), (1, .int (hm_oldF ρ j)), (2, .int (nI (j + 1)))]) rfl ?_; exact ih2) | (have hc : hm_oldF ρ (j + 1) = ρ 2 j := (by (rw [hm_old_s]; repeat' split) <;> first | with_reducible rfl | (exfalso; clear ih; (simp only [iz_lt, iz_le, iz_eq, iz_0, iz_1, iz_2, iz_3, iz_4, iz_5, iz_6, iz_7, iz_8, iz_m, decide_eq_true_eq, Bool.not_eq_true, decide_not, Bool.not_eq_eq_eq_not, Bool.not_true, decide_eq_false_iff_not] at *) <;> omega)); have ih2 := ih hlt; rw [hc] at ih2; refine go_loc (L' := [(0, .ref (ad 0)), (1, .int (ρ 2 j)), (2, .int (nI (j + 1)))]) rfl ?_; exact ih2)
      · refine go_iload_n (i := 1) X rfl rfl dc_M_leastInUse_28 ?_
        refine go_if_eq (tgt := 42) X dc_M_leastInUse_29 (by decide) (fun h29 => ?_) (fun h29 => ?_)
        · first | refine go_aload_n (i := 0) X rfl rfl dc_M_leastInUse_42 ?_ | refine go_aloadN_n (i := 0) X rfl rfl dc_M_leastInUse_42 ?_
          refine gm_get X 4 (by decide) fl_M_13 rfl dc_M_leastInUse_43 ?_
          refine go_iload_n (i := 2) X rfl rfl dc_M_leastInUse_46 ?_
          refine gm_ld (f := ρ 2) X rfl (by decide) (by assumption) dc_M_leastInUse_47 ?_
          refine go_goto (tgt := 52) X dc_M_leastInUse_48 (by decide) ?_
          refine go_istore_n (i := 1) X rfl (by decide) dc_M_leastInUse_52 ?_
          refine go_iinc (i := 2) (v := nI (j + 1)) X rfl (by rw [lit1]; exact nI_1 j) (by decide) dc_M_leastInUse_53 ?_
          refine go_goto (tgt := 4) X dc_M_leastInUse_56 (by decide) ?_
          first | (have hc : hm_oldF ρ (j + 1) = hm_oldF ρ j := (by (rw [hm_old_s]; repeat' split) <;> first | with_reducible rfl | (exfalso; clear ih; (simp only [iz_lt, iz_le, iz_eq, iz_0, iz_1, iz_2, iz_3, iz_4, iz_5, iz_6, iz_7, iz_8, iz_m, decide_eq_true_eq, Bool.not_eq_true, decide_not, Bool.not_eq_eq_eq_not, Bool.not_true, decide_eq_false_iff_not] at *) <;> omega)); have ih2 := ih hlt; rw [hc] at ih2; refine go_loc (L' := [(0, .ref (ad 0)), (1, .int (hm_oldF ρ j)), (2, .int (nI (j + 1)))]) rfl ?_; exact ih2) | (have hc : hm_oldF ρ (j + 1) = ρ 2 j := (by (rw [hm_old_s]; repeat' split) <;> first | with_reducible rfl | (exfalso; clear ih; (simp only [iz_lt, iz_le, iz_eq, iz_0, iz_1, iz_2, iz_3, iz_4, iz_5, iz_6, iz_7, iz_8, iz_m, decide_eq_true_eq, Bool.not_eq_true, decide_not, Bool.not_eq_eq_eq_not, Bool.not_true, decide_eq_false_iff_not] at *) <;> omega)); have ih2 := ih hlt; rw [hc] at ih2; refine go_loc (L' := [(0, .ref (ad 0)), (1, .int (ρ 2 j)), (2, .int (nI (j + 1)))]) rfl ?_; exact ih2)
        · first | refine go_aload_n (i := 0) X rfl rfl dc_M_leastInUse_32 ?_ | refine go_aloadN_n (i := 0) X rfl rfl dc_M_leastInUse_32 ?_
          refine gm_get X 4 (by decide) fl_M_13 rfl dc_M_leastInUse_33 ?_
          refine go_iload_n (i := 2) X rfl rfl dc_M_leastInUse_36 ?_
          refine gm_ld (f := ρ 2) X rfl (by decide) (by assumption) dc_M_leastInUse_37 ?_
          refine go_iload_n (i := 1) X rfl rfl dc_M_leastInUse_38 ?_
          refine go_icmp_ge (tgt := 51) X dc_M_leastInUse_39 (by decide) (fun h39 => ?_) (fun h39 => ?_)
          · refine go_iload_n (i := 1) X rfl rfl dc_M_leastInUse_51 ?_
            refine go_istore_n (i := 1) X rfl (by decide) dc_M_leastInUse_52 ?_
            refine go_iinc (i := 2) (v := nI (j + 1)) X rfl (by rw [lit1]; exact nI_1 j) (by decide) dc_M_leastInUse_53 ?_
            refine go_goto (tgt := 4) X dc_M_leastInUse_56 (by decide) ?_
            first | (have hc : hm_oldF ρ (j + 1) = hm_oldF ρ j := (by (rw [hm_old_s]; repeat' split) <;> first | with_reducible rfl | (exfalso; clear ih; (simp only [iz_lt, iz_le, iz_eq, iz_0, iz_1, iz_2, iz_3, iz_4, iz_5, iz_6, iz_7, iz_8, iz_m, decide_eq_true_eq, Bool.not_eq_true, decide_not, Bool.not_eq_eq_eq_not, Bool.not_true, decide_eq_false_iff_not] at *) <;> omega)); have ih2 := ih hlt; rw [hc] at ih2; refine go_loc (L' := [(0, .ref (ad 0)), (1, .int (hm_oldF ρ j)), (2, .int (nI (j + 1)))]) rfl ?_; exact ih2) | (have hc : hm_oldF ρ (j + 1) = ρ 2 j := (by (rw [hm_old_s]; repeat' split) <;> first | with_reducible rfl | (exfalso; clear ih; (simp only [iz_lt, iz_le, iz_eq, iz_0, iz_1, iz_2, iz_3, iz_4, iz_5, iz_6, iz_7, iz_8, iz_m, decide_eq_true_eq, Bool.not_eq_true, decide_not, Bool.not_eq_eq_eq_not, Bool.not_true, decide_eq_false_iff_not] at *) <;> omega)); have ih2 := ih hlt; rw [hc] at ih2; refine go_loc (L' := [(0, .ref (ad 0)), (1, .int (ρ 2 j)), (2, .int (nI (j + 1)))]) rfl ?_; exact ih2)
          · first | refine go_aload_n (i := 0) X rfl rfl dc_M_leastInUse_42 ?_ | refine go_aloadN_n (i := 0) X rfl rfl dc_M_leastInUse_42 ?_
            refine gm_get X 4 (by decide) fl_M_13 rfl dc_M_leastInUse_43 ?_
            refine go_iload_n (i := 2) X rfl rfl dc_M_leastInUse_46 ?_
            refine gm_ld (f := ρ 2) X rfl (by decide) (by assumption) dc_M_leastInUse_47 ?_
            refine go_goto (tgt := 52) X dc_M_leastInUse_48 (by decide) ?_
            refine go_istore_n (i := 1) X rfl (by decide) dc_M_leastInUse_52 ?_
            refine go_iinc (i := 2) (v := nI (j + 1)) X rfl (by rw [lit1]; exact nI_1 j) (by decide) dc_M_leastInUse_53 ?_
            refine go_goto (tgt := 4) X dc_M_leastInUse_56 (by decide) ?_
            first | (have hc : hm_oldF ρ (j + 1) = hm_oldF ρ j := (by (rw [hm_old_s]; repeat' split) <;> first | with_reducible rfl | (exfalso; clear ih; (simp only [iz_lt, iz_le, iz_eq, iz_0, iz_1, iz_2, iz_3, iz_4, iz_5, iz_6, iz_7, iz_8, iz_m, decide_eq_true_eq, Bool.not_eq_true, decide_not, Bool.not_eq_eq_eq_not, Bool.not_true, decide_eq_false_iff_not] at *) <;> omega)); have ih2 := ih hlt; rw [hc] at ih2; refine go_loc (L' := [(0, .ref (ad 0)), (1, .int (hm_oldF ρ j)), (2, .int (nI (j + 1)))]) rfl ?_; exact ih2) | (have hc : hm_oldF ρ (j + 1) = ρ 2 j := (by (rw [hm_old_s]; repeat' split) <;> first | with_reducible rfl | (exfalso; clear ih; (simp only [iz_lt, iz_le, iz_eq, iz_0, iz_1, iz_2, iz_3, iz_4, iz_5, iz_6, iz_7, iz_8, iz_m, decide_eq_true_eq, Bool.not_eq_true, decide_not, Bool.not_eq_eq_eq_not, Bool.not_true, decide_eq_false_iff_not] at *) <;> omega)); have ih2 := ih hlt; rw [hc] at ih2; refine go_loc (L' := [(0, .ref (ad 0)), (1, .int (ρ 2 j)), (2, .int (nI (j + 1)))]) rfl ?_; exact ih2)
set_option maxHeartbeats 4000000 in
set_option maxRecDepth 20000 in
theorem tm_oldest (l : Launch) (D : va_G) (T : Nat → ClassId) (ad : Nat → Nat) (A : Nat → Prop) (nw : List Cond) (K n : Nat) {ρ : ST_} : cm_ l D T ad K n A nw yn_M_oldest (.code yn_M_oldest cd_M_oldest 1 (some .int)) 1 [] ρ (u2_ ρ 0 0 0) (some (.int (hm_oldF (u2_ ρ 0 0 0) 32))) := by
  refine go_in (by decide) (Nat.le_of_ble_eq_true rfl) (List.forall_mem_cons.mpr ⟨rfl, fun _ h => nomatch h⟩) ?_
  intro P e s m args below meth c X hr hnm hN
  replace X : Cx_ P l e (rm_d 1) s m args below meth c cd_M_oldest 1 rn_M D cl_ (tys_ T) TG_ := X
  refine go_loc (L' := [(0, .ref (ad 0))]) rfl ?_
  first | refine go_aload_n (i := 0) X rfl rfl dc_M_oldest_0 ?_ | refine go_aloadN_n (i := 0) X rfl rfl dc_M_oldest_0 ?_
  refine go_iconst (v := 0) X (by decide) dc_M_oldest_1 ?_
  refine gm_put X 0 0 (by decide) fl_M_99 rfl (tk_M 0 (by decide)) (mF_s0 _ _ _ _ _) dc_M_oldest_2 ?_
  first | refine go_aload_n (i := 0) X rfl rfl dc_M_oldest_5 ?_ | refine go_aloadN_n (i := 0) X rfl rfl dc_M_oldest_5 ?_
  refine go_cV (C := rn_M) (ci := 7) (i := 0) (n := 0) (rest := []) X hN (tm_leastInUse l D T ad A nw K n) ml_M_153 im_M_leastInUse sl_M_MleastInUse ik_M co_M_leastInUse ⟨rfl, by decide, by decide, by decide +kernel⟩ ⟨rfl, rfl, by decide, by decide⟩ rfl (wl_at (by decide)) rfl rfl (Nat.le_of_ble_eq_true rfl) dc_M_oldest_6 ⟨Nat.zero_le _, Nat.zero_le _⟩ ?_
  exact go_iret X hr dc_M_oldest_9 rfl rfl
end M5
end
section
section M6
set_option maxHeartbeats 4000000 in
set_option maxRecDepth 20000 in
theorem tm_runX (l : Launch) (D : va_G) (T : Nat → ClassId) (ad : Nat → Nat) (A : Nat → Prop) (nw : List Cond) (K n : Nat) {ρ : ST_} {x y : Int32} (hs : ¬ (1 ≤ y ∧ y ≤ 1000)) : cm_ l D T ad K n A nw yn_M_run (.code yn_M_run cd_M_run 6 (some .int)) 1 [.int x, .int y] ρ (u2_ ρ 0 0 1) (some (.int 0)) := by
  refine go_in (by decide) (Nat.le_of_ble_eq_true rfl) (List.forall_mem_cons.mpr ⟨rfl, List.forall_mem_cons.mpr ⟨rfl, List.forall_mem_cons.mpr ⟨rfl, fun _ h => nomatch h⟩⟩⟩) ?_
  intro P e s m args below meth c X hr hnm hN
  replace X : Cx_ P l e (rm_d 1) s m args below meth c cd_M_run 6 rn_M D cl_ (tys_ T) TG_ := X
  refine go_loc (L' := [(0, .ref (ad 0)), (1, .int x), (2, .int y)]) rfl ?_
  first | refine go_aload_n (i := 0) X rfl rfl dc_M_run_0 ?_ | refine go_aloadN_n (i := 0) X rfl rfl dc_M_run_0 ?_
  refine go_iload_n (i := 2) X rfl rfl dc_M_run_1 ?_
  refine go_iconst (v := 1) X (by decide) dc_M_run_2 ?_
  refine go_icmp_lt (tgt := 13) X dc_M_run_3 (by decide) (fun h3 => ?_) (fun h3 => ?_)
  · refine go_iconst (v := 1) X (by decide) dc_M_run_13 ?_
    refine go_goto (tgt := 18) X dc_M_run_14 (by decide) ?_
    refine go_cV (C := rn_M) (ci := 7) (i := 0) (n := 1) (rest := []) X hN (tm_ref1 (x := 1) (by decide)) ml_M_123 im_M_refused sl_M_Mrefused ik_M co_M_refused ⟨rfl, by decide, by decide, by decide +kernel⟩ ⟨rfl, rfl, by decide, by decide⟩ rfl (wl_at (by decide)) rfl rfl (Nat.le_of_ble_eq_true rfl) dc_M_run_18 ⟨Nat.zero_le _, Nat.zero_le _⟩ ?_
    refine go_if_eq (tgt := 26) X dc_M_run_21 (by decide) (fun h21 => ?_) (fun h21 => ?_)
    · exact absurd h21 (by decide)
    · refine go_iconst (v := 0) X (by decide) dc_M_run_24 ?_
      exact go_iret X hr dc_M_run_25 rfl rfl
  · refine go_iload_n (i := 2) X rfl rfl dc_M_run_6 ?_
    refine go_sipush (v := 1000) X (by decide) dc_M_run_7 ?_
    refine go_icmp_le (tgt := 17) X dc_M_run_10 (by decide) (fun h10 => ?_) (fun h10 => ?_)
    · exact absurd ⟨by rw [iz_le, iz_1]; rw [iz_lt, iz_1] at h3; omega, h10⟩ hs
    · refine go_iconst (v := 1) X (by decide) dc_M_run_13 ?_
      refine go_goto (tgt := 18) X dc_M_run_14 (by decide) ?_
      refine go_cV (C := rn_M) (ci := 7) (i := 0) (n := 1) (rest := []) X hN (tm_ref1 (x := 1) (by decide)) ml_M_123 im_M_refused sl_M_Mrefused ik_M co_M_refused ⟨rfl, by decide, by decide, by decide +kernel⟩ ⟨rfl, rfl, by decide, by decide⟩ rfl (wl_at (by decide)) rfl rfl (Nat.le_of_ble_eq_true rfl) dc_M_run_18 ⟨Nat.zero_le _, Nat.zero_le _⟩ ?_
      refine go_if_eq (tgt := 26) X dc_M_run_21 (by decide) (fun h21 => ?_) (fun h21 => ?_)
      · exact absurd h21 (by decide)
      · refine go_iconst (v := 0) X (by decide) dc_M_run_24 ?_
        exact go_iret X hr dc_M_run_25 rfl rfl
set_option maxHeartbeats 4000000 in
set_option maxRecDepth 20000 in
theorem tm_run (l : Launch) (D : va_G) (T : Nat → ClassId) (ad : Nat → Nat) (A : Nat → Prop) (nw : List Cond) (K n : Nat) {ρ : ST_} {x : Int32} {S : Nat} {I : ST_ → Prop} (hK : K < 4) (hn : n ≤ 5) (h0 : 0 < n) (hz : ¬ nI n = 0) (hs : 1 ≤ S ∧ S ≤ 1000) (hR : Rn_ K n I) (hI0 : I (u2_ ρ 0 0 0)) : cm_ l D T ad K n A nw yn_M_run (.code yn_M_run cd_M_run 6 (some .int)) 5 [.int x, .int (nI S)] ρ (hm_run K n S x 0 (u2_ ρ 0 0 0)).1 (some (.int (hm_run K n S x 0 (u2_ ρ 0 0 0)).2)) := by
  refine go_in (by decide) (Nat.le_of_ble_eq_true rfl) (List.forall_mem_cons.mpr ⟨rfl, List.forall_mem_cons.mpr ⟨rfl, List.forall_mem_cons.mpr ⟨rfl, fun _ h => nomatch h⟩⟩⟩) ?_
  intro P e s m args below meth c X hr hnm hN
  replace X : Cx_ P l e (rm_d 5) s m args below meth c cd_M_run 6 rn_M D cl_ (tys_ T) TG_ := X
  refine go_loc (L' := [(0, .ref (ad 0)), (1, .int x), (2, .int (nI S))]) rfl ?_
  first | refine go_aload_n (i := 0) X rfl rfl dc_M_run_0 ?_ | refine go_aloadN_n (i := 0) X rfl rfl dc_M_run_0 ?_
  refine go_iload_n (i := 2) X rfl rfl dc_M_run_1 ?_
  refine go_iconst (v := 1) X (by decide) dc_M_run_2 ?_
  refine go_icmp_lt (tgt := 13) X dc_M_run_3 (by decide) (fun h3 => ?_) (fun h3 => ?_)
  · exfalso
    rw [iz_lt, iz_1, iz_nI (by omega)] at h3
    omega
  · refine go_iload_n (i := 2) X rfl rfl dc_M_run_6 ?_
    refine go_sipush (v := 1000) X (by decide) dc_M_run_7 ?_
    refine go_icmp_le (tgt := 17) X dc_M_run_10 (by decide) (fun h10 => ?_) (fun h10 => ?_)
    · refine go_iconst (v := 0) X (by decide) dc_M_run_17 ?_
      refine go_cV (C := rn_M) (ci := 7) (i := 0) (n := 1) (rest := []) X hN (tm_ref0) ml_M_123 im_M_refused sl_M_Mrefused ik_M co_M_refused ⟨rfl, by decide, by decide, by decide +kernel⟩ ⟨rfl, rfl, by decide, by decide⟩ rfl (wl_at (by decide)) rfl rfl (Nat.le_of_ble_eq_true rfl) dc_M_run_18 ⟨Nat.zero_le _, Nat.zero_le _⟩ ?_
      refine go_if_eq (tgt := 26) X dc_M_run_21 (by decide) (fun h21 => ?_) (fun h21 => ?_)
      · refine go_iload_n (i := 1) X rfl rfl dc_M_run_26 ?_
        refine go_istore_n (i := 3) X rfl (by decide) dc_M_run_27 ?_
        refine go_iconst (v := 0) X (by decide) dc_M_run_28 ?_
        refine go_istore (i := 4) X (by decide) dc_M_run_29 ?_
        refine go_iconst (v := nI 0) X (by decide) dc_M_run_31 ?_
        refine go_istore (i := 5) X (by decide) dc_M_run_32 ?_
        refine go_loc (L' := [(0, .ref (ad 0)), (1, .int x), (2, .int (nI S)), (3, .int x), (4, .int 0), (5, .int (nI 0))]) rfl ?_
        refine (lp_up (P := fun j => ∀ (x9 r9 : Int32) (ρ9 : ST_), I ρ9 → hm_run K n (S - j) x9 r9 ρ9 = hm_run K n S x 0 (u2_ ρ 0 0 0) → Go_ P l e (rm_d 5) s m args below meth c D cl_ A 6 0 0 _ (mW_ T ad K n ρ9) 34 [(0, .ref (ad 0)), (1, .int x), (2, .int (nI S)), (3, .int x9), (4, .int r9), (5, .int (nI j))] []) S (fun j hj ih x9 r9 ρ9 hI9 hE => ?_)) 0 (Nat.zero_le _) x 0 (u2_ ρ 0 0 0) hI0 rfl
        refine go_iload (i := 5) X rfl dc_M_run_34 ?_
        refine go_iload_n (i := 2) X rfl rfl dc_M_run_36 ?_
        refine go_icmp_ge (tgt := 83) X dc_M_run_37 (by decide) (fun h37 => ?_) (fun h37 => ?_)
        · have ej : j = S := by rw [iz_le, iz_nI (by omega), iz_nI (by omega)] at h37; omega
          subst ej
          rw [Nat.sub_self] at hE
          have hE2 : (ρ9, r9) = hm_run K n j x 0 (u2_ ρ 0 0 0) := hE
          refine go_iload (i := 4) X rfl dc_M_run_83 ?_
          exact go_iret X hr dc_M_run_85 (congrArg (mW_ T ad K n) (by rw [← hE2])) (congrArg some (congrArg Value.int (by rw [← hE2])))
        · have hlt : j < S := by rw [iz_le, iz_nI (by omega), iz_nI (by omega)] at h37; omega
          obtain ⟨q, hq, e1, e2⟩ := rq_lt h0 hn (rx_ x9)
          have hq5 : Ix_ (nI q) 5 q := Ix_n (by omega) (by decide)
          obtain ⟨hO, hI2⟩ := hR ρ9 hI9 q hq
          have hS : hm_run K n (S - j) x9 r9 ρ9 = hm_run K n (S - (j + 1)) (rx_ x9) (if (hm_one K n ρ9 q).2 = 1 then r9 + 1 else r9) (hm_one K n ρ9 q).1 := by
            rw [show S - j = S - (j + 1) + 1 by omega]
            show hm_run K n (S - (j + 1)) (rx_ x9) (if (hm_one K n ρ9 (rq_ n (rx_ x9))).2 = 1 then r9 + 1 else r9) (hm_one K n ρ9 (rq_ n (rx_ x9))).1 = _
            rw [e1]
          rw [hS] at hE
          refine go_iload_n (i := 3) X rfl rfl dc_M_run_40 ?_
          refine go_ldc X kc_M_152 dc_M_run_41 ?_
          refine go_imul X dc_M_run_43 ?_
          refine go_sipush (v := 12345) X (by decide) dc_M_run_44 ?_
          refine go_iadd X dc_M_run_47 ?_
          refine go_istore_n (i := 3) X rfl (by decide) dc_M_run_48 ?_
          first | refine go_aload_n (i := 0) X rfl rfl dc_M_run_49 ?_ | refine go_aloadN_n (i := 0) X rfl rfl dc_M_run_49 ?_
          refine go_iload_n (i := 3) X rfl rfl dc_M_run_50 ?_
          refine go_bipush (v := 16) X (by decide) dc_M_run_51 ?_
          refine go_iushr X dc_M_run_53 ?_
          first | refine go_aload_n (i := 0) X rfl rfl dc_M_run_54 ?_ | refine go_aloadN_n (i := 0) X rfl rfl dc_M_run_54 ?_
          refine gm_get X 2 (by decide) fl_M_90 rfl dc_M_run_55 ?_
          refine go_irem X hz dc_M_run_58 ?_
          refine go_eqs (st' := [.int (nI q), .ref (ad 0)]) (by rw [show (x9 * 1103515245 + 12345) = rx_ x9 from rfl, e2]) ?_
          refine go_cV (C := rn_M) (ci := 7) (i := 0) (n := 1) (rest := []) X hN (tm_one l D T ad A nw K n hn hq5 hK hz hO) ml_M_149 im_M_one sl_M_Mone ik_M co_M_one ⟨rfl, by decide, by decide, by decide +kernel⟩ ⟨rfl, rfl, by decide, by decide⟩ rfl (wl_at (by decide)) rfl rfl (Nat.le_of_ble_eq_true rfl) dc_M_run_59 ⟨Nat.zero_le _, Nat.zero_le _⟩ ?_
          refine go_iconst (v := 1) X (by decide) dc_M_run_62 ?_
          refine go_icmp_ne (tgt := 73) X dc_M_run_63 (by decide) (fun h63 => ?_) (fun h63 => ?_)
          · refine go_iload (i := 4) X rfl dc_M_run_73 ?_
            refine go_istore (i := 4) X (by decide) dc_M_run_75 ?_
            refine go_iinc (i := 5) (v := nI (j + 1)) X rfl (by rw [lit1]; exact nI_1 j) (by decide) dc_M_run_77 ?_
            refine go_goto (tgt := 34) X dc_M_run_80 (by decide) ?_
            first | (rw [if_neg h63] at hE; refine go_loc (L' := [(0, .ref (ad 0)), (1, .int x), (2, .int (nI S)), (3, .int (rx_ x9)), (4, .int r9), (5, .int (nI (j + 1)))]) rfl ?_; exact ih hlt _ _ _ hI2 hE) | (rw [if_pos h63] at hE; refine go_loc (L' := [(0, .ref (ad 0)), (1, .int x), (2, .int (nI S)), (3, .int (rx_ x9)), (4, .int (r9 + 1)), (5, .int (nI (j + 1)))]) rfl ?_; exact ih hlt _ _ _ hI2 hE)
          · refine go_iload (i := 4) X rfl dc_M_run_66 ?_
            refine go_iconst (v := 1) X (by decide) dc_M_run_68 ?_
            refine go_iadd X dc_M_run_69 ?_
            refine go_goto (tgt := 75) X dc_M_run_70 (by decide) ?_
            refine go_istore (i := 4) X (by decide) dc_M_run_75 ?_
            refine go_iinc (i := 5) (v := nI (j + 1)) X rfl (by rw [lit1]; exact nI_1 j) (by decide) dc_M_run_77 ?_
            refine go_goto (tgt := 34) X dc_M_run_80 (by decide) ?_
            first | (rw [if_neg h63] at hE; refine go_loc (L' := [(0, .ref (ad 0)), (1, .int x), (2, .int (nI S)), (3, .int (rx_ x9)), (4, .int r9), (5, .int (nI (j + 1)))]) rfl ?_; exact ih hlt _ _ _ hI2 hE) | (rw [if_pos h63] at hE; refine go_loc (L' := [(0, .ref (ad 0)), (1, .int x), (2, .int (nI S)), (3, .int (rx_ x9)), (4, .int (r9 + 1)), (5, .int (nI (j + 1)))]) rfl ?_; exact ih hlt _ _ _ hI2 hE)
      · exact absurd rfl h21
    · exfalso
      rw [iz_le, iz_1000, iz_nI (by omega)] at h10
      omega
set_option maxHeartbeats 4000000 in
set_option maxRecDepth 20000 in
theorem tm_nodeN (l : Launch) (D : va_G) (T : Nat → ClassId) (ad : Nat → Nat) (A : Nat → Prop) (nw : List Cond) (K n : Nat) {ρ : ST_} {x y : Int32} (hf : hm_findF ρ x 32 = -1) : cm_ l D T ad K n A nw yn_M_node (.code yn_M_node cd_M_node 5 (some .int)) 1 [.int x, .int y] ρ (u2_ ρ 0 0 1) (some (.int 0)) := by
  refine go_in (by decide) (Nat.le_of_ble_eq_true rfl) (List.forall_mem_cons.mpr ⟨rfl, List.forall_mem_cons.mpr ⟨rfl, List.forall_mem_cons.mpr ⟨rfl, fun _ h => nomatch h⟩⟩⟩) ?_
  intro P e s m args below meth c X hr hnm hN
  replace X : Cx_ P l e (rm_d 1) s m args below meth c cd_M_node 5 rn_M D cl_ (tys_ T) TG_ := X
  refine go_loc (L' := [(0, .ref (ad 0)), (1, .int x), (2, .int y)]) rfl ?_
  refine go_iconst (v := (-1)) X (by decide) dc_M_node_0 ?_
  refine go_istore_n (i := 3) X rfl (by decide) dc_M_node_1 ?_
  refine go_iconst (v := nI 0) X (by decide) dc_M_node_2 ?_
  refine go_istore (i := 4) X (by decide) dc_M_node_3 ?_
  refine go_loc (L' := [(0, .ref (ad 0)), (1, .int x), (2, .int y), (3, .int (hm_findF ρ x 0)), (4, .int (nI 0))]) rfl ?_
  refine (lp_up (P := fun j => Go_ P l e (rm_d 1) s m args below meth c D cl_ A 5 0 0 _ (mW_ T ad K n (ρ)) 5 [(0, .ref (ad 0)), (1, .int x), (2, .int y), (3, .int (hm_findF ρ x j)), (4, .int (nI j))] []) 32 (fun j hj ih => ?_)) 0 (Nat.zero_le _)
  refine go_iload (i := 4) X rfl dc_M_node_5 ?_
  refine go_bipush (v := 32) X (by decide) dc_M_node_7 ?_
  refine go_icmp_ge (tgt := 50) X dc_M_node_9 (by decide) (fun h9 => ?_) (fun h9 => ?_)
  · have e32 : j = 32 := by rw [iz_le, iz_32, iz_nI (by omega)] at h9; omega
    subst e32
    first | refine go_aload_n (i := 0) X rfl rfl dc_M_node_50 ?_ | refine go_aloadN_n (i := 0) X rfl rfl dc_M_node_50 ?_
    refine go_iload_n (i := 3) X rfl rfl dc_M_node_51 ?_
    refine go_if_ge (tgt := 59) X dc_M_node_52 (by decide) (fun h52 => ?_) (fun h52 => ?_)
    · exact absurd h52 (by rw [hf]; decide)
    · refine go_iconst (v := 1) X (by decide) dc_M_node_55 ?_
      refine go_goto (tgt := 73) X dc_M_node_56 (by decide) ?_
      refine go_cV (C := rn_M) (ci := 7) (i := 0) (n := 1) (rest := []) X hN (tm_ref1 (x := 1) (by decide)) ml_M_123 im_M_refused sl_M_Mrefused ik_M co_M_refused ⟨rfl, by decide, by decide, by decide +kernel⟩ ⟨rfl, rfl, by decide, by decide⟩ rfl (wl_at (by decide)) rfl rfl (Nat.le_of_ble_eq_true rfl) dc_M_node_73 ⟨Nat.zero_le _, Nat.zero_le _⟩ ?_
      refine go_if_eq (tgt := 81) X dc_M_node_76 (by decide) (fun h76 => ?_) (fun h76 => ?_)
      · exact absurd h76 (by decide)
      · refine go_iconst (v := 0) X (by decide) dc_M_node_79 ?_
        exact go_iret X hr dc_M_node_80 rfl rfl
  · have hlt : j < 32 := by rw [iz_le, iz_32, iz_nI (by omega)] at h9; omega
    have hx : Ix_ (nI j) 32 j := Ix_n hlt (by decide)
    first | refine go_aload_n (i := 0) X rfl rfl dc_M_node_12 ?_ | refine go_aloadN_n (i := 0) X rfl rfl dc_M_node_12 ?_
    refine gm_get X 3 (by decide) fl_M_7 rfl dc_M_node_13 ?_
    refine go_iload (i := 4) X rfl dc_M_node_16 ?_
    refine gm_zld (f := ρ 1) X rfl (by assumption) dc_M_node_18 ?_
    refine go_if_eq (tgt := 42) X dc_M_node_19 (by decide) (fun h19 => ?_) (fun h19 => ?_)
    · refine go_iload_n (i := 3) X rfl rfl dc_M_node_42 ?_
      refine go_istore_n (i := 3) X rfl (by decide) dc_M_node_43 ?_
      refine go_iinc (i := 4) (v := nI (j + 1)) X rfl (by rw [lit1]; exact nI_1 j) (by decide) dc_M_node_44 ?_
      refine go_goto (tgt := 5) X dc_M_node_47 (by decide) ?_
      first | (have hc : hm_findF ρ x (j + 1) = hm_findF ρ x j := (by (rw [hm_find_s]; repeat' split) <;> first | with_reducible rfl | (exfalso; clear ih; (simp only [iz_lt, iz_le, iz_eq, iz_0, iz_1, iz_2, iz_3, iz_4, iz_5, iz_6, iz_7, iz_8, iz_m, decide_eq_true_eq, Bool.not_eq_true, decide_not, Bool.not_eq_eq_eq_not, Bool.not_true, decide_eq_false_iff_not] at *) <;> omega)); have ih2 := ih hlt; rw [hc] at ih2; refine go_loc (L' := [(0, .ref (ad 0)), (1, .int x), (2, .int y), (3, .int (hm_findF ρ x j)), (4, .int (nI (j + 1)))]) rfl ?_; exact ih2) | (have hc : hm_findF ρ x (j + 1) = nI j := (by (rw [hm_find_s]; repeat' split) <;> first | with_reducible rfl | (exfalso; clear ih; (simp only [iz_lt, iz_le, iz_eq, iz_0, iz_1, iz_2, iz_3, iz_4, iz_5, iz_6, iz_7, iz_8, iz_m, decide_eq_true_eq, Bool.not_eq_true, decide_not, Bool.not_eq_eq_eq_not, Bool.not_true, decide_eq_false_iff_not] at *) <;> omega)); have ih2 := ih hlt; rw [hc] at ih2; refine go_loc (L' := [(0, .ref (ad 0)), (1, .int x), (2, .int y), (3, .int (nI j)), (4, .int (nI (j + 1)))]) rfl ?_; exact ih2)
    · refine go_iload_n (i := 1) X rfl rfl dc_M_node_22 ?_
      refine go_if_le (tgt := 42) X dc_M_node_23 (by decide) (fun h23 => ?_) (fun h23 => ?_)
      · refine go_iload_n (i := 3) X rfl rfl dc_M_node_42 ?_
        refine go_istore_n (i := 3) X rfl (by decide) dc_M_node_43 ?_
        refine go_iinc (i := 4) (v := nI (j + 1)) X rfl (by rw [lit1]; exact nI_1 j) (by decide) dc_M_node_44 ?_
        refine go_goto (tgt := 5) X dc_M_node_47 (by decide) ?_
        first | (have hc : hm_findF ρ x (j + 1) = hm_findF ρ x j := (by (rw [hm_find_s]; repeat' split) <;> first | with_reducible rfl | (exfalso; clear ih; (simp only [iz_lt, iz_le, iz_eq, iz_0, iz_1, iz_2, iz_3, iz_4, iz_5, iz_6, iz_7, iz_8, iz_m, decide_eq_true_eq, Bool.not_eq_true, decide_not, Bool.not_eq_eq_eq_not, Bool.not_true, decide_eq_false_iff_not] at *) <;> omega)); have ih2 := ih hlt; rw [hc] at ih2; refine go_loc (L' := [(0, .ref (ad 0)), (1, .int x), (2, .int y), (3, .int (hm_findF ρ x j)), (4, .int (nI (j + 1)))]) rfl ?_; exact ih2) | (have hc : hm_findF ρ x (j + 1) = nI j := (by (rw [hm_find_s]; repeat' split) <;> first | with_reducible rfl | (exfalso; clear ih; (simp only [iz_lt, iz_le, iz_eq, iz_0, iz_1, iz_2, iz_3, iz_4, iz_5, iz_6, iz_7, iz_8, iz_m, decide_eq_true_eq, Bool.not_eq_true, decide_not, Bool.not_eq_eq_eq_not, Bool.not_true, decide_eq_false_iff_not] at *) <;> omega)); have ih2 := ih hlt; rw [hc] at ih2; refine go_loc (L' := [(0, .ref (ad 0)), (1, .int x), (2, .int y), (3, .int (nI j)), (4, .int (nI (j + 1)))]) rfl ?_; exact ih2)
      · first | refine go_aload_n (i := 0) X rfl rfl dc_M_node_26 ?_ | refine go_aloadN_n (i := 0) X rfl rfl dc_M_node_26 ?_
        refine gm_get X 4 (by decide) fl_M_13 rfl dc_M_node_27 ?_
        refine go_iload (i := 4) X rfl dc_M_node_30 ?_
        refine gm_ld (f := ρ 2) X rfl (by decide) (by assumption) dc_M_node_32 ?_
        refine go_iload_n (i := 1) X rfl rfl dc_M_node_33 ?_
        refine go_icmp_ne (tgt := 42) X dc_M_node_34 (by decide) (fun h34 => ?_) (fun h34 => ?_)
        · refine go_iload_n (i := 3) X rfl rfl dc_M_node_42 ?_
          refine go_istore_n (i := 3) X rfl (by decide) dc_M_node_43 ?_
          refine go_iinc (i := 4) (v := nI (j + 1)) X rfl (by rw [lit1]; exact nI_1 j) (by decide) dc_M_node_44 ?_
          refine go_goto (tgt := 5) X dc_M_node_47 (by decide) ?_
          first | (have hc : hm_findF ρ x (j + 1) = hm_findF ρ x j := (by (rw [hm_find_s]; repeat' split) <;> first | with_reducible rfl | (exfalso; clear ih; (simp only [iz_lt, iz_le, iz_eq, iz_0, iz_1, iz_2, iz_3, iz_4, iz_5, iz_6, iz_7, iz_8, iz_m, decide_eq_true_eq, Bool.not_eq_true, decide_not, Bool.not_eq_eq_eq_not, Bool.not_true, decide_eq_false_iff_not] at *) <;> omega)); have ih2 := ih hlt; rw [hc] at ih2; refine go_loc (L' := [(0, .ref (ad 0)), (1, .int x), (2, .int y), (3, .int (hm_findF ρ x j)), (4, .int (nI (j + 1)))]) rfl ?_; exact ih2) | (have hc : hm_findF ρ x (j + 1) = nI j := (by (rw [hm_find_s]; repeat' split) <;> first | with_reducible rfl | (exfalso; clear ih; (simp only [iz_lt, iz_le, iz_eq, iz_0, iz_1, iz_2, iz_3, iz_4, iz_5, iz_6, iz_7, iz_8, iz_m, decide_eq_true_eq, Bool.not_eq_true, decide_not, Bool.not_eq_eq_eq_not, Bool.not_true, decide_eq_false_iff_not] at *) <;> omega)); have ih2 := ih hlt; rw [hc] at ih2; refine go_loc (L' := [(0, .ref (ad 0)), (1, .int x), (2, .int y), (3, .int (nI j)), (4, .int (nI (j + 1)))]) rfl ?_; exact ih2)
        · refine go_iload (i := 4) X rfl dc_M_node_37 ?_
          refine go_goto (tgt := 43) X dc_M_node_39 (by decide) ?_
          refine go_istore_n (i := 3) X rfl (by decide) dc_M_node_43 ?_
          refine go_iinc (i := 4) (v := nI (j + 1)) X rfl (by rw [lit1]; exact nI_1 j) (by decide) dc_M_node_44 ?_
          refine go_goto (tgt := 5) X dc_M_node_47 (by decide) ?_
          first | (have hc : hm_findF ρ x (j + 1) = hm_findF ρ x j := (by (rw [hm_find_s]; repeat' split) <;> first | with_reducible rfl | (exfalso; clear ih; (simp only [iz_lt, iz_le, iz_eq, iz_0, iz_1, iz_2, iz_3, iz_4, iz_5, iz_6, iz_7, iz_8, iz_m, decide_eq_true_eq, Bool.not_eq_true, decide_not, Bool.not_eq_eq_eq_not, Bool.not_true, decide_eq_false_iff_not] at *) <;> omega)); have ih2 := ih hlt; rw [hc] at ih2; refine go_loc (L' := [(0, .ref (ad 0)), (1, .int x), (2, .int y), (3, .int (hm_findF ρ x j)), (4, .int (nI (j + 1)))]) rfl ?_; exact ih2) | (have hc : hm_findF ρ x (j + 1) = nI j := (by (rw [hm_find_s]; repeat' split) <;> first | with_reducible rfl | (exfalso; clear ih; (simp only [iz_lt, iz_le, iz_eq, iz_0, iz_1, iz_2, iz_3, iz_4, iz_5, iz_6, iz_7, iz_8, iz_m, decide_eq_true_eq, Bool.not_eq_true, decide_not, Bool.not_eq_eq_eq_not, Bool.not_true, decide_eq_false_iff_not] at *) <;> omega)); have ih2 := ih hlt; rw [hc] at ih2; refine go_loc (L' := [(0, .ref (ad 0)), (1, .int x), (2, .int y), (3, .int (nI j)), (4, .int (nI (j + 1)))]) rfl ?_; exact ih2)
set_option maxHeartbeats 4000000 in
set_option maxRecDepth 20000 in
theorem tm_nodeW (l : Launch) (D : va_G) (T : Nat → ClassId) (ad : Nat → Nat) (A : Nat → Prop) (nw : List Cond) (K n : Nat) {ρ : ST_} {x y : Int32} {k : Nat} (hf : hm_findF ρ x 32 = nI k) (hk : k < 32) (hy : ¬ (0 ≤ y ∧ y ≤ 3)) : cm_ l D T ad K n A nw yn_M_node (.code yn_M_node cd_M_node 5 (some .int)) 1 [.int x, .int y] ρ (u2_ ρ 0 0 2) (some (.int 0)) := by
  refine go_in (by decide) (Nat.le_of_ble_eq_true rfl) (List.forall_mem_cons.mpr ⟨rfl, List.forall_mem_cons.mpr ⟨rfl, List.forall_mem_cons.mpr ⟨rfl, fun _ h => nomatch h⟩⟩⟩) ?_
  intro P e s m args below meth c X hr hnm hN
  replace X : Cx_ P l e (rm_d 1) s m args below meth c cd_M_node 5 rn_M D cl_ (tys_ T) TG_ := X
  refine go_loc (L' := [(0, .ref (ad 0)), (1, .int x), (2, .int y)]) rfl ?_
  refine go_iconst (v := (-1)) X (by decide) dc_M_node_0 ?_
  refine go_istore_n (i := 3) X rfl (by decide) dc_M_node_1 ?_
  refine go_iconst (v := nI 0) X (by decide) dc_M_node_2 ?_
  refine go_istore (i := 4) X (by decide) dc_M_node_3 ?_
  refine go_loc (L' := [(0, .ref (ad 0)), (1, .int x), (2, .int y), (3, .int (hm_findF ρ x 0)), (4, .int (nI 0))]) rfl ?_
  refine (lp_up (P := fun j => Go_ P l e (rm_d 1) s m args below meth c D cl_ A 5 0 0 _ (mW_ T ad K n (ρ)) 5 [(0, .ref (ad 0)), (1, .int x), (2, .int y), (3, .int (hm_findF ρ x j)), (4, .int (nI j))] []) 32 (fun j hj ih => ?_)) 0 (Nat.zero_le _)
  refine go_iload (i := 4) X rfl dc_M_node_5 ?_
  refine go_bipush (v := 32) X (by decide) dc_M_node_7 ?_
  refine go_icmp_ge (tgt := 50) X dc_M_node_9 (by decide) (fun h9 => ?_) (fun h9 => ?_)
  · have e32 : j = 32 := by rw [iz_le, iz_32, iz_nI (by omega)] at h9; omega
    subst e32
    first | refine go_aload_n (i := 0) X rfl rfl dc_M_node_50 ?_ | refine go_aloadN_n (i := 0) X rfl rfl dc_M_node_50 ?_
    refine go_iload_n (i := 3) X rfl rfl dc_M_node_51 ?_
    refine go_if_ge (tgt := 59) X dc_M_node_52 (by decide) (fun h52 => ?_) (fun h52 => ?_)
    · refine go_iload_n (i := 2) X rfl rfl dc_M_node_59 ?_
      refine go_if_lt (tgt := 68) X dc_M_node_60 (by decide) (fun h60 => ?_) (fun h60 => ?_)
      · refine go_iconst (v := 2) X (by decide) dc_M_node_68 ?_
        refine go_goto (tgt := 73) X dc_M_node_69 (by decide) ?_
        refine go_cV (C := rn_M) (ci := 7) (i := 0) (n := 1) (rest := []) X hN (tm_ref1 (x := 2) (by decide)) ml_M_123 im_M_refused sl_M_Mrefused ik_M co_M_refused ⟨rfl, by decide, by decide, by decide +kernel⟩ ⟨rfl, rfl, by decide, by decide⟩ rfl (wl_at (by decide)) rfl rfl (Nat.le_of_ble_eq_true rfl) dc_M_node_73 ⟨Nat.zero_le _, Nat.zero_le _⟩ ?_
        refine go_if_eq (tgt := 81) X dc_M_node_76 (by decide) (fun h76 => ?_) (fun h76 => ?_)
        · exact absurd h76 (by decide)
        · refine go_iconst (v := 0) X (by decide) dc_M_node_79 ?_
          exact go_iret X hr dc_M_node_80 rfl rfl
      · refine go_iload_n (i := 2) X rfl rfl dc_M_node_63 ?_
        refine go_iconst (v := 3) X (by decide) dc_M_node_64 ?_
        refine go_icmp_le (tgt := 72) X dc_M_node_65 (by decide) (fun h65 => ?_) (fun h65 => ?_)
        · exact absurd ⟨by rw [iz_le, iz_0]; rw [iz_lt, iz_0] at h60; omega, h65⟩ hy
        · refine go_iconst (v := 2) X (by decide) dc_M_node_68 ?_
          refine go_goto (tgt := 73) X dc_M_node_69 (by decide) ?_
          refine go_cV (C := rn_M) (ci := 7) (i := 0) (n := 1) (rest := []) X hN (tm_ref1 (x := 2) (by decide)) ml_M_123 im_M_refused sl_M_Mrefused ik_M co_M_refused ⟨rfl, by decide, by decide, by decide +kernel⟩ ⟨rfl, rfl, by decide, by decide⟩ rfl (wl_at (by decide)) rfl rfl (Nat.le_of_ble_eq_true rfl) dc_M_node_73 ⟨Nat.zero_le _, Nat.zero_le _⟩ ?_
          refine go_if_eq (tgt := 81) X dc_M_node_76 (by decide) (fun h76 => ?_) (fun h76 => ?_)
          · exact absurd h76 (by decide)
          · refine go_iconst (v := 0) X (by decide) dc_M_node_79 ?_
            exact go_iret X hr dc_M_node_80 rfl rfl
    · exact absurd (by rw [hf]; exact nI_pos' (by omega)) h52
  · have hlt : j < 32 := by rw [iz_le, iz_32, iz_nI (by omega)] at h9; omega
    have hx : Ix_ (nI j) 32 j := Ix_n hlt (by decide)
    first | refine go_aload_n (i := 0) X rfl rfl dc_M_node_12 ?_ | refine go_aloadN_n (i := 0) X rfl rfl dc_M_node_12 ?_
    refine gm_get X 3 (by decide) fl_M_7 rfl dc_M_node_13 ?_
    refine go_iload (i := 4) X rfl dc_M_node_16 ?_
    refine gm_zld (f := ρ 1) X rfl (by assumption) dc_M_node_18 ?_
    refine go_if_eq (tgt := 42) X dc_M_node_19 (by decide) (fun h19 => ?_) (fun h19 => ?_)
    · refine go_iload_n (i := 3) X rfl rfl dc_M_node_42 ?_
      refine go_istore_n (i := 3) X rfl (by decide) dc_M_node_43 ?_
      refine go_iinc (i := 4) (v := nI (j + 1)) X rfl (by rw [lit1]; exact nI_1 j) (by decide) dc_M_node_44 ?_
      refine go_goto (tgt := 5) X dc_M_node_47 (by decide) ?_
      first | (have hc : hm_findF ρ x (j + 1) = hm_findF ρ x j := (by (rw [hm_find_s]; repeat' split) <;> first | with_reducible rfl | (exfalso; clear ih; (simp only [iz_lt, iz_le, iz_eq, iz_0, iz_1, iz_2, iz_3, iz_4, iz_5, iz_6, iz_7, iz_8, iz_m, decide_eq_true_eq, Bool.not_eq_true, decide_not, Bool.not_eq_eq_eq_not, Bool.not_true, decide_eq_false_iff_not] at *) <;> omega)); have ih2 := ih hlt; rw [hc] at ih2; refine go_loc (L' := [(0, .ref (ad 0)), (1, .int x), (2, .int y), (3, .int (hm_findF ρ x j)), (4, .int (nI (j + 1)))]) rfl ?_; exact ih2) | (have hc : hm_findF ρ x (j + 1) = nI j := (by (rw [hm_find_s]; repeat' split) <;> first | with_reducible rfl | (exfalso; clear ih; (simp only [iz_lt, iz_le, iz_eq, iz_0, iz_1, iz_2, iz_3, iz_4, iz_5, iz_6, iz_7, iz_8, iz_m, decide_eq_true_eq, Bool.not_eq_true, decide_not, Bool.not_eq_eq_eq_not, Bool.not_true, decide_eq_false_iff_not] at *) <;> omega)); have ih2 := ih hlt; rw [hc] at ih2; refine go_loc (L' := [(0, .ref (ad 0)), (1, .int x), (2, .int y), (3, .int (nI j)), (4, .int (nI (j + 1)))]) rfl ?_; exact ih2)
    · refine go_iload_n (i := 1) X rfl rfl dc_M_node_22 ?_
      refine go_if_le (tgt := 42) X dc_M_node_23 (by decide) (fun h23 => ?_) (fun h23 => ?_)
      · refine go_iload_n (i := 3) X rfl rfl dc_M_node_42 ?_
        refine go_istore_n (i := 3) X rfl (by decide) dc_M_node_43 ?_
        refine go_iinc (i := 4) (v := nI (j + 1)) X rfl (by rw [lit1]; exact nI_1 j) (by decide) dc_M_node_44 ?_
        refine go_goto (tgt := 5) X dc_M_node_47 (by decide) ?_
        first | (have hc : hm_findF ρ x (j + 1) = hm_findF ρ x j := (by (rw [hm_find_s]; repeat' split) <;> first | with_reducible rfl | (exfalso; clear ih; (simp only [iz_lt, iz_le, iz_eq, iz_0, iz_1, iz_2, iz_3, iz_4, iz_5, iz_6, iz_7, iz_8, iz_m, decide_eq_true_eq, Bool.not_eq_true, decide_not, Bool.not_eq_eq_eq_not, Bool.not_true, decide_eq_false_iff_not] at *) <;> omega)); have ih2 := ih hlt; rw [hc] at ih2; refine go_loc (L' := [(0, .ref (ad 0)), (1, .int x), (2, .int y), (3, .int (hm_findF ρ x j)), (4, .int (nI (j + 1)))]) rfl ?_; exact ih2) | (have hc : hm_findF ρ x (j + 1) = nI j := (by (rw [hm_find_s]; repeat' split) <;> first | with_reducible rfl | (exfalso; clear ih; (simp only [iz_lt, iz_le, iz_eq, iz_0, iz_1, iz_2, iz_3, iz_4, iz_5, iz_6, iz_7, iz_8, iz_m, decide_eq_true_eq, Bool.not_eq_true, decide_not, Bool.not_eq_eq_eq_not, Bool.not_true, decide_eq_false_iff_not] at *) <;> omega)); have ih2 := ih hlt; rw [hc] at ih2; refine go_loc (L' := [(0, .ref (ad 0)), (1, .int x), (2, .int y), (3, .int (nI j)), (4, .int (nI (j + 1)))]) rfl ?_; exact ih2)
      · first | refine go_aload_n (i := 0) X rfl rfl dc_M_node_26 ?_ | refine go_aloadN_n (i := 0) X rfl rfl dc_M_node_26 ?_
        refine gm_get X 4 (by decide) fl_M_13 rfl dc_M_node_27 ?_
        refine go_iload (i := 4) X rfl dc_M_node_30 ?_
        refine gm_ld (f := ρ 2) X rfl (by decide) (by assumption) dc_M_node_32 ?_
        refine go_iload_n (i := 1) X rfl rfl dc_M_node_33 ?_
        refine go_icmp_ne (tgt := 42) X dc_M_node_34 (by decide) (fun h34 => ?_) (fun h34 => ?_)
        · refine go_iload_n (i := 3) X rfl rfl dc_M_node_42 ?_
          refine go_istore_n (i := 3) X rfl (by decide) dc_M_node_43 ?_
          refine go_iinc (i := 4) (v := nI (j + 1)) X rfl (by rw [lit1]; exact nI_1 j) (by decide) dc_M_node_44 ?_
          refine go_goto (tgt := 5) X dc_M_node_47 (by decide) ?_
          first | (have hc : hm_findF ρ x (j + 1) = hm_findF ρ x j := (by (rw [hm_find_s]; repeat' split) <;> first | with_reducible rfl | (exfalso; clear ih; (simp only [iz_lt, iz_le, iz_eq, iz_0, iz_1, iz_2, iz_3, iz_4, iz_5, iz_6, iz_7, iz_8, iz_m, decide_eq_true_eq, Bool.not_eq_true, decide_not, Bool.not_eq_eq_eq_not, Bool.not_true, decide_eq_false_iff_not] at *) <;> omega)); have ih2 := ih hlt; rw [hc] at ih2; refine go_loc (L' := [(0, .ref (ad 0)), (1, .int x), (2, .int y), (3, .int (hm_findF ρ x j)), (4, .int (nI (j + 1)))]) rfl ?_; exact ih2) | (have hc : hm_findF ρ x (j + 1) = nI j := (by (rw [hm_find_s]; repeat' split) <;> first | with_reducible rfl | (exfalso; clear ih; (simp only [iz_lt, iz_le, iz_eq, iz_0, iz_1, iz_2, iz_3, iz_4, iz_5, iz_6, iz_7, iz_8, iz_m, decide_eq_true_eq, Bool.not_eq_true, decide_not, Bool.not_eq_eq_eq_not, Bool.not_true, decide_eq_false_iff_not] at *) <;> omega)); have ih2 := ih hlt; rw [hc] at ih2; refine go_loc (L' := [(0, .ref (ad 0)), (1, .int x), (2, .int y), (3, .int (nI j)), (4, .int (nI (j + 1)))]) rfl ?_; exact ih2)
        · refine go_iload (i := 4) X rfl dc_M_node_37 ?_
          refine go_goto (tgt := 43) X dc_M_node_39 (by decide) ?_
          refine go_istore_n (i := 3) X rfl (by decide) dc_M_node_43 ?_
          refine go_iinc (i := 4) (v := nI (j + 1)) X rfl (by rw [lit1]; exact nI_1 j) (by decide) dc_M_node_44 ?_
          refine go_goto (tgt := 5) X dc_M_node_47 (by decide) ?_
          first | (have hc : hm_findF ρ x (j + 1) = hm_findF ρ x j := (by (rw [hm_find_s]; repeat' split) <;> first | with_reducible rfl | (exfalso; clear ih; (simp only [iz_lt, iz_le, iz_eq, iz_0, iz_1, iz_2, iz_3, iz_4, iz_5, iz_6, iz_7, iz_8, iz_m, decide_eq_true_eq, Bool.not_eq_true, decide_not, Bool.not_eq_eq_eq_not, Bool.not_true, decide_eq_false_iff_not] at *) <;> omega)); have ih2 := ih hlt; rw [hc] at ih2; refine go_loc (L' := [(0, .ref (ad 0)), (1, .int x), (2, .int y), (3, .int (hm_findF ρ x j)), (4, .int (nI (j + 1)))]) rfl ?_; exact ih2) | (have hc : hm_findF ρ x (j + 1) = nI j := (by (rw [hm_find_s]; repeat' split) <;> first | with_reducible rfl | (exfalso; clear ih; (simp only [iz_lt, iz_le, iz_eq, iz_0, iz_1, iz_2, iz_3, iz_4, iz_5, iz_6, iz_7, iz_8, iz_m, decide_eq_true_eq, Bool.not_eq_true, decide_not, Bool.not_eq_eq_eq_not, Bool.not_true, decide_eq_false_iff_not] at *) <;> omega)); have ih2 := ih hlt; rw [hc] at ih2; refine go_loc (L' := [(0, .ref (ad 0)), (1, .int x), (2, .int y), (3, .int (nI j)), (4, .int (nI (j + 1)))]) rfl ?_; exact ih2)
set_option maxHeartbeats 4000000 in
set_option maxRecDepth 20000 in
theorem tm_node (l : Launch) (D : va_G) (T : Nat → ClassId) (ad : Nat → Nat) (A : Nat → Prop) (nw : List Cond) (K n : Nat) {ρ : ST_} {x y : Int32} {k : Nat} (hf : hm_findF ρ x 32 = nI k) (hk : k < 32) (hy : 0 ≤ y ∧ y ≤ 3) : cm_ l D T ad K n A nw yn_M_node (.code yn_M_node cd_M_node 5 (some .int)) 1 [.int x, .int y] ρ (u2_ ρ 0 0 0) (some (.int (if x = 1 then -1 else hm_part ρ k y))) := by
  refine go_in (by decide) (Nat.le_of_ble_eq_true rfl) (List.forall_mem_cons.mpr ⟨rfl, List.forall_mem_cons.mpr ⟨rfl, List.forall_mem_cons.mpr ⟨rfl, fun _ h => nomatch h⟩⟩⟩) ?_
  intro P e s m args below meth c X hr hnm hN
  replace X : Cx_ P l e (rm_d 1) s m args below meth c cd_M_node 5 rn_M D cl_ (tys_ T) TG_ := X
  refine go_loc (L' := [(0, .ref (ad 0)), (1, .int x), (2, .int y)]) rfl ?_
  refine go_iconst (v := (-1)) X (by decide) dc_M_node_0 ?_
  refine go_istore_n (i := 3) X rfl (by decide) dc_M_node_1 ?_
  refine go_iconst (v := nI 0) X (by decide) dc_M_node_2 ?_
  refine go_istore (i := 4) X (by decide) dc_M_node_3 ?_
  refine go_loc (L' := [(0, .ref (ad 0)), (1, .int x), (2, .int y), (3, .int (hm_findF ρ x 0)), (4, .int (nI 0))]) rfl ?_
  refine (lp_up (P := fun j => Go_ P l e (rm_d 1) s m args below meth c D cl_ A 5 0 0 _ (mW_ T ad K n (ρ)) 5 [(0, .ref (ad 0)), (1, .int x), (2, .int y), (3, .int (hm_findF ρ x j)), (4, .int (nI j))] []) 32 (fun j hj ih => ?_)) 0 (Nat.zero_le _)
  refine go_iload (i := 4) X rfl dc_M_node_5 ?_
  refine go_bipush (v := 32) X (by decide) dc_M_node_7 ?_
  refine go_icmp_ge (tgt := 50) X dc_M_node_9 (by decide) (fun h9 => ?_) (fun h9 => ?_)
  · have e32 : j = 32 := by rw [iz_le, iz_32, iz_nI (by omega)] at h9; omega
    subst e32
    first | refine go_aload_n (i := 0) X rfl rfl dc_M_node_50 ?_ | refine go_aloadN_n (i := 0) X rfl rfl dc_M_node_50 ?_
    refine go_iload_n (i := 3) X rfl rfl dc_M_node_51 ?_
    refine go_if_ge (tgt := 59) X dc_M_node_52 (by decide) (fun h52 => ?_) (fun h52 => ?_)
    · refine go_iload_n (i := 2) X rfl rfl dc_M_node_59 ?_
      refine go_if_lt (tgt := 68) X dc_M_node_60 (by decide) (fun h60 => ?_) (fun h60 => ?_)
      · exfalso
        have z := hy.1
        rw [iz_le, iz_0] at z
        rw [iz_lt, iz_0] at h60
        omega
      · refine go_iload_n (i := 2) X rfl rfl dc_M_node_63 ?_
        refine go_iconst (v := 3) X (by decide) dc_M_node_64 ?_
        refine go_icmp_le (tgt := 72) X dc_M_node_65 (by decide) (fun h65 => ?_) (fun h65 => ?_)
        · refine go_iconst (v := 0) X (by decide) dc_M_node_72 ?_
          refine go_cV (C := rn_M) (ci := 7) (i := 0) (n := 1) (rest := []) X hN (tm_ref0) ml_M_123 im_M_refused sl_M_Mrefused ik_M co_M_refused ⟨rfl, by decide, by decide, by decide +kernel⟩ ⟨rfl, rfl, by decide, by decide⟩ rfl (wl_at (by decide)) rfl rfl (Nat.le_of_ble_eq_true rfl) dc_M_node_73 ⟨Nat.zero_le _, Nat.zero_le _⟩ ?_
          refine go_if_eq (tgt := 81) X dc_M_node_76 (by decide) (fun h76 => ?_) (fun h76 => ?_)
          · have hkx : Ix_ (hm_findF ρ x 32) 32 k := by rw [hf]; exact Ix_n hk (by decide)
            refine go_iload_n (i := 1) X rfl rfl dc_M_node_81 ?_
            refine go_iconst (v := 1) X (by decide) dc_M_node_82 ?_
            refine go_icmp_ne (tgt := 88) X dc_M_node_83 (by decide) (fun h83 => ?_) (fun h83 => ?_)
            · refine go_iload_n (i := 2) X rfl rfl dc_M_node_88 ?_
              refine go_if_ne (tgt := 101) X dc_M_node_89 (by decide) (fun h89 => ?_) (fun h89 => ?_)
              · refine go_iload_n (i := 2) X rfl rfl dc_M_node_101 ?_
                refine go_iconst (v := 1) X (by decide) dc_M_node_102 ?_
                refine go_icmp_ne (tgt := 115) X dc_M_node_103 (by decide) (fun h103 => ?_) (fun h103 => ?_)
                · refine go_iload_n (i := 2) X rfl rfl dc_M_node_115 ?_
                  refine go_iconst (v := 2) X (by decide) dc_M_node_116 ?_
                  refine go_icmp_ne (tgt := 129) X dc_M_node_117 (by decide) (fun h117 => ?_) (fun h117 => ?_)
                  · first | refine go_aload_n (i := 0) X rfl rfl dc_M_node_129 ?_ | refine go_aloadN_n (i := 0) X rfl rfl dc_M_node_129 ?_
                    refine gm_get X 9 (by decide) fl_M_29 rfl dc_M_node_130 ?_
                    refine go_iload_n (i := 3) X rfl rfl dc_M_node_133 ?_
                    refine gm_ld (f := ρ 7) X rfl (by decide) (by assumption) dc_M_node_134 ?_
                    exact go_iret X hr dc_M_node_135 rfl (congrArg some (congrArg Value.int (by rw [if_neg h83]; unfold hm_part; (repeat' split) <;> first | with_reducible rfl | (exfalso; clear ih; (simp only [iz_lt, iz_le, iz_eq, iz_0, iz_1, iz_2, iz_3, iz_4, iz_5, iz_6, iz_7, iz_8, iz_m] at *) <;> omega))))
                  · first | refine go_aload_n (i := 0) X rfl rfl dc_M_node_120 ?_ | refine go_aloadN_n (i := 0) X rfl rfl dc_M_node_120 ?_
                    refine gm_get X 8 (by decide) fl_M_26 rfl dc_M_node_121 ?_
                    refine go_iload_n (i := 3) X rfl rfl dc_M_node_124 ?_
                    refine gm_ld (f := ρ 6) X rfl (by decide) (by assumption) dc_M_node_125 ?_
                    refine go_goto (tgt := 135) X dc_M_node_126 (by decide) ?_
                    exact go_iret X hr dc_M_node_135 rfl (congrArg some (congrArg Value.int (by rw [if_neg h83]; unfold hm_part; (repeat' split) <;> first | with_reducible rfl | (exfalso; clear ih; (simp only [iz_lt, iz_le, iz_eq, iz_0, iz_1, iz_2, iz_3, iz_4, iz_5, iz_6, iz_7, iz_8, iz_m] at *) <;> omega))))
                · first | refine go_aload_n (i := 0) X rfl rfl dc_M_node_106 ?_ | refine go_aloadN_n (i := 0) X rfl rfl dc_M_node_106 ?_
                  refine gm_get X 7 (by decide) fl_M_23 rfl dc_M_node_107 ?_
                  refine go_iload_n (i := 3) X rfl rfl dc_M_node_110 ?_
                  refine gm_ld (f := ρ 5) X rfl (by decide) (by assumption) dc_M_node_111 ?_
                  refine go_goto (tgt := 135) X dc_M_node_112 (by decide) ?_
                  exact go_iret X hr dc_M_node_135 rfl (congrArg some (congrArg Value.int (by rw [if_neg h83]; unfold hm_part; (repeat' split) <;> first | with_reducible rfl | (exfalso; clear ih; (simp only [iz_lt, iz_le, iz_eq, iz_0, iz_1, iz_2, iz_3, iz_4, iz_5, iz_6, iz_7, iz_8, iz_m] at *) <;> omega))))
              · first | refine go_aload_n (i := 0) X rfl rfl dc_M_node_92 ?_ | refine go_aloadN_n (i := 0) X rfl rfl dc_M_node_92 ?_
                refine gm_get X 6 (by decide) fl_M_20 rfl dc_M_node_93 ?_
                refine go_iload_n (i := 3) X rfl rfl dc_M_node_96 ?_
                refine gm_ld (f := ρ 4) X rfl (by decide) (by assumption) dc_M_node_97 ?_
                refine go_goto (tgt := 135) X dc_M_node_98 (by decide) ?_
                exact go_iret X hr dc_M_node_135 rfl (congrArg some (congrArg Value.int (by rw [if_neg h83]; unfold hm_part; (repeat' split) <;> first | with_reducible rfl | (exfalso; clear ih; (simp only [iz_lt, iz_le, iz_eq, iz_0, iz_1, iz_2, iz_3, iz_4, iz_5, iz_6, iz_7, iz_8, iz_m] at *) <;> omega))))
            · refine go_iconst (v := (-1)) X (by decide) dc_M_node_86 ?_
              exact go_iret X hr dc_M_node_87 rfl (congrArg some (congrArg Value.int (by rw [if_pos h83])))
          · exact absurd rfl h76
        · exact absurd hy.2 h65
    · exact absurd (by rw [hf]; exact nI_pos' (by omega)) h52
  · have hlt : j < 32 := by rw [iz_le, iz_32, iz_nI (by omega)] at h9; omega
    have hx : Ix_ (nI j) 32 j := Ix_n hlt (by decide)
    first | refine go_aload_n (i := 0) X rfl rfl dc_M_node_12 ?_ | refine go_aloadN_n (i := 0) X rfl rfl dc_M_node_12 ?_
    refine gm_get X 3 (by decide) fl_M_7 rfl dc_M_node_13 ?_
    refine go_iload (i := 4) X rfl dc_M_node_16 ?_
    refine gm_zld (f := ρ 1) X rfl (by assumption) dc_M_node_18 ?_
    refine go_if_eq (tgt := 42) X dc_M_node_19 (by decide) (fun h19 => ?_) (fun h19 => ?_)
    · refine go_iload_n (i := 3) X rfl rfl dc_M_node_42 ?_
      refine go_istore_n (i := 3) X rfl (by decide) dc_M_node_43 ?_
      refine go_iinc (i := 4) (v := nI (j + 1)) X rfl (by rw [lit1]; exact nI_1 j) (by decide) dc_M_node_44 ?_
      refine go_goto (tgt := 5) X dc_M_node_47 (by decide) ?_
      first | (have hc : hm_findF ρ x (j + 1) = hm_findF ρ x j := (by (rw [hm_find_s]; repeat' split) <;> first | with_reducible rfl | (exfalso; clear ih; (simp only [iz_lt, iz_le, iz_eq, iz_0, iz_1, iz_2, iz_3, iz_4, iz_5, iz_6, iz_7, iz_8, iz_m, decide_eq_true_eq, Bool.not_eq_true, decide_not, Bool.not_eq_eq_eq_not, Bool.not_true, decide_eq_false_iff_not] at *) <;> omega)); have ih2 := ih hlt; rw [hc] at ih2; refine go_loc (L' := [(0, .ref (ad 0)), (1, .int x), (2, .int y), (3, .int (hm_findF ρ x j)), (4, .int (nI (j + 1)))]) rfl ?_; exact ih2) | (have hc : hm_findF ρ x (j + 1) = nI j := (by (rw [hm_find_s]; repeat' split) <;> first | with_reducible rfl | (exfalso; clear ih; (simp only [iz_lt, iz_le, iz_eq, iz_0, iz_1, iz_2, iz_3, iz_4, iz_5, iz_6, iz_7, iz_8, iz_m, decide_eq_true_eq, Bool.not_eq_true, decide_not, Bool.not_eq_eq_eq_not, Bool.not_true, decide_eq_false_iff_not] at *) <;> omega)); have ih2 := ih hlt; rw [hc] at ih2; refine go_loc (L' := [(0, .ref (ad 0)), (1, .int x), (2, .int y), (3, .int (nI j)), (4, .int (nI (j + 1)))]) rfl ?_; exact ih2)
    · refine go_iload_n (i := 1) X rfl rfl dc_M_node_22 ?_
      refine go_if_le (tgt := 42) X dc_M_node_23 (by decide) (fun h23 => ?_) (fun h23 => ?_)
      · refine go_iload_n (i := 3) X rfl rfl dc_M_node_42 ?_
        refine go_istore_n (i := 3) X rfl (by decide) dc_M_node_43 ?_
        refine go_iinc (i := 4) (v := nI (j + 1)) X rfl (by rw [lit1]; exact nI_1 j) (by decide) dc_M_node_44 ?_
        refine go_goto (tgt := 5) X dc_M_node_47 (by decide) ?_
        first | (have hc : hm_findF ρ x (j + 1) = hm_findF ρ x j := (by (rw [hm_find_s]; repeat' split) <;> first | with_reducible rfl | (exfalso; clear ih; (simp only [iz_lt, iz_le, iz_eq, iz_0, iz_1, iz_2, iz_3, iz_4, iz_5, iz_6, iz_7, iz_8, iz_m, decide_eq_true_eq, Bool.not_eq_true, decide_not, Bool.not_eq_eq_eq_not, Bool.not_true, decide_eq_false_iff_not] at *) <;> omega)); have ih2 := ih hlt; rw [hc] at ih2; refine go_loc (L' := [(0, .ref (ad 0)), (1, .int x), (2, .int y), (3, .int (hm_findF ρ x j)), (4, .int (nI (j + 1)))]) rfl ?_; exact ih2) | (have hc : hm_findF ρ x (j + 1) = nI j := (by (rw [hm_find_s]; repeat' split) <;> first | with_reducible rfl | (exfalso; clear ih; (simp only [iz_lt, iz_le, iz_eq, iz_0, iz_1, iz_2, iz_3, iz_4, iz_5, iz_6, iz_7, iz_8, iz_m, decide_eq_true_eq, Bool.not_eq_true, decide_not, Bool.not_eq_eq_eq_not, Bool.not_true, decide_eq_false_iff_not] at *) <;> omega)); have ih2 := ih hlt; rw [hc] at ih2; refine go_loc (L' := [(0, .ref (ad 0)), (1, .int x), (2, .int y), (3, .int (nI j)), (4, .int (nI (j + 1)))]) rfl ?_; exact ih2)
      · first | refine go_aload_n (i := 0) X rfl rfl dc_M_node_26 ?_ | refine go_aloadN_n (i := 0) X rfl rfl dc_M_node_26 ?_
        refine gm_get X 4 (by decide) fl_M_13 rfl dc_M_node_27 ?_
        refine go_iload (i := 4) X rfl dc_M_node_30 ?_
        refine gm_ld (f := ρ 2) X rfl (by decide) (by assumption) dc_M_node_32 ?_
        refine go_iload_n (i := 1) X rfl rfl dc_M_node_33 ?_
        refine go_icmp_ne (tgt := 42) X dc_M_node_34 (by decide) (fun h34 => ?_) (fun h34 => ?_)
        · refine go_iload_n (i := 3) X rfl rfl dc_M_node_42 ?_
          refine go_istore_n (i := 3) X rfl (by decide) dc_M_node_43 ?_
          refine go_iinc (i := 4) (v := nI (j + 1)) X rfl (by rw [lit1]; exact nI_1 j) (by decide) dc_M_node_44 ?_
          refine go_goto (tgt := 5) X dc_M_node_47 (by decide) ?_
          first | (have hc : hm_findF ρ x (j + 1) = hm_findF ρ x j := (by (rw [hm_find_s]; repeat' split) <;> first | with_reducible rfl | (exfalso; clear ih; (simp only [iz_lt, iz_le, iz_eq, iz_0, iz_1, iz_2, iz_3, iz_4, iz_5, iz_6, iz_7, iz_8, iz_m, decide_eq_true_eq, Bool.not_eq_true, decide_not, Bool.not_eq_eq_eq_not, Bool.not_true, decide_eq_false_iff_not] at *) <;> omega)); have ih2 := ih hlt; rw [hc] at ih2; refine go_loc (L' := [(0, .ref (ad 0)), (1, .int x), (2, .int y), (3, .int (hm_findF ρ x j)), (4, .int (nI (j + 1)))]) rfl ?_; exact ih2) | (have hc : hm_findF ρ x (j + 1) = nI j := (by (rw [hm_find_s]; repeat' split) <;> first | with_reducible rfl | (exfalso; clear ih; (simp only [iz_lt, iz_le, iz_eq, iz_0, iz_1, iz_2, iz_3, iz_4, iz_5, iz_6, iz_7, iz_8, iz_m, decide_eq_true_eq, Bool.not_eq_true, decide_not, Bool.not_eq_eq_eq_not, Bool.not_true, decide_eq_false_iff_not] at *) <;> omega)); have ih2 := ih hlt; rw [hc] at ih2; refine go_loc (L' := [(0, .ref (ad 0)), (1, .int x), (2, .int y), (3, .int (nI j)), (4, .int (nI (j + 1)))]) rfl ?_; exact ih2)
        · refine go_iload (i := 4) X rfl dc_M_node_37 ?_
          refine go_goto (tgt := 43) X dc_M_node_39 (by decide) ?_
          refine go_istore_n (i := 3) X rfl (by decide) dc_M_node_43 ?_
          refine go_iinc (i := 4) (v := nI (j + 1)) X rfl (by rw [lit1]; exact nI_1 j) (by decide) dc_M_node_44 ?_
          refine go_goto (tgt := 5) X dc_M_node_47 (by decide) ?_
          first | (have hc : hm_findF ρ x (j + 1) = hm_findF ρ x j := (by (rw [hm_find_s]; repeat' split) <;> first | with_reducible rfl | (exfalso; clear ih; (simp only [iz_lt, iz_le, iz_eq, iz_0, iz_1, iz_2, iz_3, iz_4, iz_5, iz_6, iz_7, iz_8, iz_m, decide_eq_true_eq, Bool.not_eq_true, decide_not, Bool.not_eq_eq_eq_not, Bool.not_true, decide_eq_false_iff_not] at *) <;> omega)); have ih2 := ih hlt; rw [hc] at ih2; refine go_loc (L' := [(0, .ref (ad 0)), (1, .int x), (2, .int y), (3, .int (hm_findF ρ x j)), (4, .int (nI (j + 1)))]) rfl ?_; exact ih2) | (have hc : hm_findF ρ x (j + 1) = nI j := (by (rw [hm_find_s]; repeat' split) <;> first | with_reducible rfl | (exfalso; clear ih; (simp only [iz_lt, iz_le, iz_eq, iz_0, iz_1, iz_2, iz_3, iz_4, iz_5, iz_6, iz_7, iz_8, iz_m, decide_eq_true_eq, Bool.not_eq_true, decide_not, Bool.not_eq_eq_eq_not, Bool.not_true, decide_eq_false_iff_not] at *) <;> omega)); have ih2 := ih hlt; rw [hc] at ih2; refine go_loc (L' := [(0, .ref (ad 0)), (1, .int x), (2, .int y), (3, .int (nI j)), (4, .int (nI (j + 1)))]) rfl ?_; exact ih2)
end M6
end
section
section M7
set_option maxHeartbeats 4000000 in
set_option maxRecDepth 20000 in
theorem tm_peekX (l : Launch) (D : va_G) (T : Nat → ClassId) (ad : Nat → Nat) (A : Nat → Prop) (nw : List Cond) (K n : Nat) {ρ : ST_} {op a b : Int32} (ho : ¬ (0 ≤ op ∧ op ≤ 2)) : cm_ l D T ad K n A nw yn_M_peek (.code yn_M_peek cd_M_peek 4 (some .int)) 1 [.int op, .int a, .int b] ρ (u2_ ρ 0 0 1) (some (.int 0)) := by
  refine go_in (by decide) (Nat.le_of_ble_eq_true rfl) (List.forall_mem_cons.mpr ⟨rfl, List.forall_mem_cons.mpr ⟨rfl, List.forall_mem_cons.mpr ⟨rfl, List.forall_mem_cons.mpr ⟨rfl, fun _ h => nomatch h⟩⟩⟩⟩) ?_
  intro P e s m args below meth c X hr hnm hN
  replace X : Cx_ P l e (rm_d 1) s m args below meth c cd_M_peek 4 rn_M D cl_ (tys_ T) TG_ := X
  refine go_loc (L' := [(0, .ref (ad 0)), (1, .int op), (2, .int a), (3, .int b)]) rfl ?_
  first | refine go_aload_n (i := 0) X rfl rfl dc_M_peek_0 ?_ | refine go_aloadN_n (i := 0) X rfl rfl dc_M_peek_0 ?_
  refine go_iload_n (i := 1) X rfl rfl dc_M_peek_1 ?_
  refine go_if_lt (tgt := 10) X dc_M_peek_2 (by decide) (fun h2 => ?_) (fun h2 => ?_)
  · refine go_iconst (v := 1) X (by decide) dc_M_peek_10 ?_
    refine go_goto (tgt := 15) X dc_M_peek_11 (by decide) ?_
    refine go_cV (C := rn_M) (ci := 7) (i := 0) (n := 1) (rest := []) X hN (tm_ref1 (x := 1) (by decide)) ml_M_123 im_M_refused sl_M_Mrefused ik_M co_M_refused ⟨rfl, by decide, by decide, by decide +kernel⟩ ⟨rfl, rfl, by decide, by decide⟩ rfl (wl_at (by decide)) rfl rfl (Nat.le_of_ble_eq_true rfl) dc_M_peek_15 ⟨Nat.zero_le _, Nat.zero_le _⟩ ?_
    refine go_if_eq (tgt := 23) X dc_M_peek_18 (by decide) (fun h18 => ?_) (fun h18 => ?_)
    · exact absurd h18 (by decide)
    · refine go_iconst (v := 0) X (by decide) dc_M_peek_21 ?_
      exact go_iret X hr dc_M_peek_22 rfl rfl
  · refine go_iload_n (i := 1) X rfl rfl dc_M_peek_5 ?_
    refine go_iconst (v := 2) X (by decide) dc_M_peek_6 ?_
    refine go_icmp_le (tgt := 14) X dc_M_peek_7 (by decide) (fun h7 => ?_) (fun h7 => ?_)
    · exact absurd ⟨by rw [iz_le, iz_0]; rw [iz_lt, iz_0] at h2; omega, h7⟩ ho
    · refine go_iconst (v := 1) X (by decide) dc_M_peek_10 ?_
      refine go_goto (tgt := 15) X dc_M_peek_11 (by decide) ?_
      refine go_cV (C := rn_M) (ci := 7) (i := 0) (n := 1) (rest := []) X hN (tm_ref1 (x := 1) (by decide)) ml_M_123 im_M_refused sl_M_Mrefused ik_M co_M_refused ⟨rfl, by decide, by decide, by decide +kernel⟩ ⟨rfl, rfl, by decide, by decide⟩ rfl (wl_at (by decide)) rfl rfl (Nat.le_of_ble_eq_true rfl) dc_M_peek_15 ⟨Nat.zero_le _, Nat.zero_le _⟩ ?_
      refine go_if_eq (tgt := 23) X dc_M_peek_18 (by decide) (fun h18 => ?_) (fun h18 => ?_)
      · exact absurd h18 (by decide)
      · refine go_iconst (v := 0) X (by decide) dc_M_peek_21 ?_
        exact go_iret X hr dc_M_peek_22 rfl rfl
set_option maxHeartbeats 4000000 in
set_option maxRecDepth 20000 in
theorem tm_plainX (l : Launch) (D : va_G) (T : Nat → ClassId) (ad : Nat → Nat) (A : Nat → Prop) (nw : List Cond) (K n : Nat) {ρ : ST_} {op a b : Int32} (ho : ¬ (0 ≤ op ∧ op ≤ 2)) : cm_ l D T ad K n A nw yn_M_plain (.code yn_M_plain cd_M_plain 6 (some .int)) 1 [.int op, .int a, .int b] ρ (u2_ ρ 0 0 1) (some (.int 0)) := by
  refine go_in (by decide) (Nat.le_of_ble_eq_true rfl) (List.forall_mem_cons.mpr ⟨rfl, List.forall_mem_cons.mpr ⟨rfl, List.forall_mem_cons.mpr ⟨rfl, List.forall_mem_cons.mpr ⟨rfl, fun _ h => nomatch h⟩⟩⟩⟩) ?_
  intro P e s m args below meth c X hr hnm hN
  replace X : Cx_ P l e (rm_d 1) s m args below meth c cd_M_plain 6 rn_M D cl_ (tys_ T) TG_ := X
  refine go_loc (L' := [(0, .ref (ad 0)), (1, .int op), (2, .int a), (3, .int b)]) rfl ?_
  first | refine go_aload_n (i := 0) X rfl rfl dc_M_plain_0 ?_ | refine go_aloadN_n (i := 0) X rfl rfl dc_M_plain_0 ?_
  refine go_iload_n (i := 1) X rfl rfl dc_M_plain_1 ?_
  refine go_if_lt (tgt := 10) X dc_M_plain_2 (by decide) (fun h2 => ?_) (fun h2 => ?_)
  · refine go_iconst (v := 1) X (by decide) dc_M_plain_10 ?_
    refine go_goto (tgt := 15) X dc_M_plain_11 (by decide) ?_
    refine go_cV (C := rn_M) (ci := 7) (i := 0) (n := 1) (rest := []) X hN (tm_ref1 (x := 1) (by decide)) ml_M_123 im_M_refused sl_M_Mrefused ik_M co_M_refused ⟨rfl, by decide, by decide, by decide +kernel⟩ ⟨rfl, rfl, by decide, by decide⟩ rfl (wl_at (by decide)) rfl rfl (Nat.le_of_ble_eq_true rfl) dc_M_plain_15 ⟨Nat.zero_le _, Nat.zero_le _⟩ ?_
    refine go_if_eq (tgt := 23) X dc_M_plain_18 (by decide) (fun h18 => ?_) (fun h18 => ?_)
    · exact absurd h18 (by decide)
    · refine go_iconst (v := 0) X (by decide) dc_M_plain_21 ?_
      exact go_iret X hr dc_M_plain_22 rfl rfl
  · refine go_iload_n (i := 1) X rfl rfl dc_M_plain_5 ?_
    refine go_iconst (v := 2) X (by decide) dc_M_plain_6 ?_
    refine go_icmp_le (tgt := 14) X dc_M_plain_7 (by decide) (fun h7 => ?_) (fun h7 => ?_)
    · exact absurd ⟨by rw [iz_le, iz_0]; rw [iz_lt, iz_0] at h2; omega, h7⟩ ho
    · refine go_iconst (v := 1) X (by decide) dc_M_plain_10 ?_
      refine go_goto (tgt := 15) X dc_M_plain_11 (by decide) ?_
      refine go_cV (C := rn_M) (ci := 7) (i := 0) (n := 1) (rest := []) X hN (tm_ref1 (x := 1) (by decide)) ml_M_123 im_M_refused sl_M_Mrefused ik_M co_M_refused ⟨rfl, by decide, by decide, by decide +kernel⟩ ⟨rfl, rfl, by decide, by decide⟩ rfl (wl_at (by decide)) rfl rfl (Nat.le_of_ble_eq_true rfl) dc_M_plain_15 ⟨Nat.zero_le _, Nat.zero_le _⟩ ?_
      refine go_if_eq (tgt := 23) X dc_M_plain_18 (by decide) (fun h18 => ?_) (fun h18 => ?_)
      · exact absurd h18 (by decide)
      · refine go_iconst (v := 0) X (by decide) dc_M_plain_21 ?_
        exact go_iret X hr dc_M_plain_22 rfl rfl
set_option maxHeartbeats 4000000 in
set_option maxRecDepth 20000 in
theorem tm_peek (l : Launch) (D : va_G) (T : Nat → ClassId) (ad : Nat → Nat) (A : Nat → Prop) (nw : List Cond) (K n : Nat) {ρ : ST_} {op a b : Int32} {J : Nat} (hK : K < 4) (ho : 0 ≤ op ∧ op ≤ 2) (hJ : ρ 0 1 = nI (J + 1)) (hJ6 : J + 1 < 600) : cm_ l D T ad K n A nw yn_M_peek (.code yn_M_peek cd_M_peek 4 (some .int)) 3 [.int op, .int a, .int b] ρ (hm_peek K op a b (u2_ ρ 0 0 0)) (some (.int (hm_peekR K op a b (u2_ ρ 0 0 0)))) := by
  have eJ : ix_ (ρ 0 1) - 1 = J := by rw [hJ, show ix_ (nI (J + 1)) = J + 1 from nI_clamp (by omega)]; rfl
  refine go_in (by decide) (Nat.le_of_ble_eq_true rfl) (List.forall_mem_cons.mpr ⟨rfl, List.forall_mem_cons.mpr ⟨rfl, List.forall_mem_cons.mpr ⟨rfl, List.forall_mem_cons.mpr ⟨rfl, fun _ h => nomatch h⟩⟩⟩⟩) ?_
  intro P e s m args below meth c X hr hnm hN
  replace X : Cx_ P l e (rm_d 3) s m args below meth c cd_M_peek 4 rn_M D cl_ (tys_ T) TG_ := X
  refine go_loc (L' := [(0, .ref (ad 0)), (1, .int op), (2, .int a), (3, .int b)]) rfl ?_
  first | refine go_aload_n (i := 0) X rfl rfl dc_M_peek_0 ?_ | refine go_aloadN_n (i := 0) X rfl rfl dc_M_peek_0 ?_
  refine go_iload_n (i := 1) X rfl rfl dc_M_peek_1 ?_
  refine go_if_lt (tgt := 10) X dc_M_peek_2 (by decide) (fun h2 => ?_) (fun h2 => ?_)
  · exfalso
    have z := ho.1
    rw [iz_le, iz_0] at z
    rw [iz_lt, iz_0] at h2
    omega
  · refine go_iload_n (i := 1) X rfl rfl dc_M_peek_5 ?_
    refine go_iconst (v := 2) X (by decide) dc_M_peek_6 ?_
    refine go_icmp_le (tgt := 14) X dc_M_peek_7 (by decide) (fun h7 => ?_) (fun h7 => ?_)
    · refine go_iconst (v := 0) X (by decide) dc_M_peek_14 ?_
      refine go_cV (C := rn_M) (ci := 7) (i := 0) (n := 1) (rest := []) X hN (tm_ref0) ml_M_123 im_M_refused sl_M_Mrefused ik_M co_M_refused ⟨rfl, by decide, by decide, by decide +kernel⟩ ⟨rfl, rfl, by decide, by decide⟩ rfl (wl_at (by decide)) rfl rfl (Nat.le_of_ble_eq_true rfl) dc_M_peek_15 ⟨Nat.zero_le _, Nat.zero_le _⟩ ?_
      refine go_if_eq (tgt := 23) X dc_M_peek_18 (by decide) (fun h18 => ?_) (fun h18 => ?_)
      · first | refine go_aload_n (i := 0) X rfl rfl dc_M_peek_23 ?_ | refine go_aloadN_n (i := 0) X rfl rfl dc_M_peek_23 ?_
        first | refine go_aload_n (i := 0) X rfl rfl dc_M_peek_24 ?_ | refine go_aloadN_n (i := 0) X rfl rfl dc_M_peek_24 ?_
        refine gm_get (v := .int (ρ 0 1)) X 23 (by decide) fl_M_93 rfl dc_M_peek_25 ?_
        refine go_cV (C := rn_M) (ci := 7) (i := 0) (n := 1) (rest := []) X hN (tm_replay l D T ad A nw K n (ρ := u2_ ρ 0 0 0) hK hJ hJ6) ml_M_126 im_M_replay sl_M_Mreplay ik_M co_M_replay ⟨rfl, by decide, by decide, by decide +kernel⟩ ⟨rfl, rfl, by decide, by decide⟩ rfl (wl_at (by decide)) rfl rfl (Nat.le_of_ble_eq_true rfl) dc_M_peek_28 ⟨Nat.zero_le _, Nat.zero_le _⟩ ?_
        refine go_pop X rfl dc_M_peek_31 ?_
        first | refine go_aload_n (i := 0) X rfl rfl dc_M_peek_32 ?_ | refine go_aloadN_n (i := 0) X rfl rfl dc_M_peek_32 ?_
        refine go_iload_n (i := 1) X rfl rfl dc_M_peek_33 ?_
        refine go_iload_n (i := 2) X rfl rfl dc_M_peek_34 ?_
        refine go_iload_n (i := 3) X rfl rfl dc_M_peek_35 ?_
        refine go_cV (C := rn_M) (ci := 7) (i := 0) (n := 3) (rest := []) X hN (tm_act l D T ad A nw K n (ρ := hm_rep K J (u2_ ρ 0 0 0)) hK (rs_z K (ρ 21) (ρ 22) (ρ 23) J)) ml_M_116 im_M_act sl_M_Mact ik_M co_M_act ⟨rfl, by decide, by decide, by decide +kernel⟩ ⟨rfl, rfl, by decide, by decide⟩ rfl (wl_at (by decide)) rfl rfl (Nat.le_of_ble_eq_true rfl) dc_M_peek_36 ⟨Nat.zero_le _, Nat.zero_le _⟩ ?_
        exact go_iret X hr dc_M_peek_39 (congrArg (mW_ T ad K n) (by unfold hm_peek; rw [show (u2_ ρ 0 0 0) 0 1 = ρ 0 1 from rfl, eJ])) (congrArg some (congrArg Value.int (by unfold hm_peekR; rw [show (u2_ ρ 0 0 0) 0 1 = ρ 0 1 from rfl, eJ])))
      · exact absurd rfl h18
    · exact absurd ho.2 h7
set_option maxHeartbeats 4000000 in
set_option maxRecDepth 20000 in
theorem tm_plain (l : Launch) (D : va_G) (T : Nat → ClassId) (ad : Nat → Nat) (A : Nat → Prop) (nw : List Cond) (K n : Nat) {ρ : ST_} {op a b : Int32} (hK : K < 4) (ho : 0 ≤ op ∧ op ≤ 2) (hz : 0 ≤ (ρ 0 3).toInt ∧ (ρ 0 3).toInt ≤ 8) : cm_ l D T ad K n A nw yn_M_plain (.code yn_M_plain cd_M_plain 6 (some .int)) 2 [.int op, .int a, .int b] ρ (hm_plain K op a b (u2_ ρ 0 0 0)) (some (.int (hm_plainR K op a b (u2_ ρ 0 0 0)))) := by
  refine go_in (by decide) (Nat.le_of_ble_eq_true rfl) (List.forall_mem_cons.mpr ⟨rfl, List.forall_mem_cons.mpr ⟨rfl, List.forall_mem_cons.mpr ⟨rfl, List.forall_mem_cons.mpr ⟨rfl, fun _ h => nomatch h⟩⟩⟩⟩) ?_
  intro P e s m args below meth c X hr hnm hN
  replace X : Cx_ P l e (rm_d 2) s m args below meth c cd_M_plain 6 rn_M D cl_ (tys_ T) TG_ := X
  refine go_loc (L' := [(0, .ref (ad 0)), (1, .int op), (2, .int a), (3, .int b)]) rfl ?_
  first | refine go_aload_n (i := 0) X rfl rfl dc_M_plain_0 ?_ | refine go_aloadN_n (i := 0) X rfl rfl dc_M_plain_0 ?_
  refine go_iload_n (i := 1) X rfl rfl dc_M_plain_1 ?_
  refine go_if_lt (tgt := 10) X dc_M_plain_2 (by decide) (fun h2 => ?_) (fun h2 => ?_)
  · exfalso
    have z := ho.1
    rw [iz_le, iz_0] at z
    rw [iz_lt, iz_0] at h2
    omega
  · refine go_iload_n (i := 1) X rfl rfl dc_M_plain_5 ?_
    refine go_iconst (v := 2) X (by decide) dc_M_plain_6 ?_
    refine go_icmp_le (tgt := 14) X dc_M_plain_7 (by decide) (fun h7 => ?_) (fun h7 => ?_)
    · refine go_iconst (v := 0) X (by decide) dc_M_plain_14 ?_
      refine go_cV (C := rn_M) (ci := 7) (i := 0) (n := 1) (rest := []) X hN (tm_ref0) ml_M_123 im_M_refused sl_M_Mrefused ik_M co_M_refused ⟨rfl, by decide, by decide, by decide +kernel⟩ ⟨rfl, rfl, by decide, by decide⟩ rfl (wl_at (by decide)) rfl rfl (Nat.le_of_ble_eq_true rfl) dc_M_plain_15 ⟨Nat.zero_le _, Nat.zero_le _⟩ ?_
      refine go_if_eq (tgt := 23) X dc_M_plain_18 (by decide) (fun h18 => ?_) (fun h18 => ?_)
      · first | refine go_aload_n (i := 0) X rfl rfl dc_M_plain_23 ?_ | refine go_aloadN_n (i := 0) X rfl rfl dc_M_plain_23 ?_
        first | refine go_aload_n (i := 0) X rfl rfl dc_M_plain_24 ?_ | refine go_aloadN_n (i := 0) X rfl rfl dc_M_plain_24 ?_
        refine gm_get (v := .int (ρ 0 3)) X 30 (by decide) fl_M_160 rfl dc_M_plain_25 ?_
        refine gm_put X 28 2 (by decide) fl_M_102 rfl (tk_M 28 (by decide)) (mF_s2 _ _ _ _ _) dc_M_plain_28 ?_
        refine go_iconst (v := nI 0) X (by decide) dc_M_plain_31 ?_
        refine go_istore (i := 4) X (by decide) dc_M_plain_32 ?_
        refine go_loc (L' := [(0, .ref (ad 0)), (1, .int op), (2, .int a), (3, .int b), (4, .int (nI 0))]) rfl ?_
        refine go_eqw (w' := mW_ T ad K n (u1_ (u2_ (u2_ ρ 0 0 0) 0 2 (ρ 0 3)) 24 (cp_ (ρ 24) (ρ 25) 0))) (congrArg _ (by rw [cp_0]; exact (u1_id (u2_ (u2_ ρ 0 0 0) 0 2 (ρ 0 3)) 24).symm)) ?_
        refine (lp_up (P := fun j => Go_ P l e (rm_d 2) s m args below meth c D cl_ A 6 0 0 _ (mW_ T ad K n (u1_ (u2_ (u2_ ρ 0 0 0) 0 2 (ρ 0 3)) 24 (cp_ (ρ 24) (ρ 25) j))) 34 [(0, .ref (ad 0)), (1, .int op), (2, .int a), (3, .int b), (4, .int (nI j))] []) 8 (fun j hj ih => ?_)) 0 (Nat.zero_le _)
        refine go_iload (i := 4) X rfl dc_M_plain_34 ?_
        refine go_bipush (v := 8) X (by decide) dc_M_plain_36 ?_
        refine go_icmp_ge (tgt := 61) X dc_M_plain_38 (by decide) (fun h38 => ?_) (fun h38 => ?_)
        · have e8 : j = 8 := by rw [iz_le, iz_8, iz_nI (by omega)] at h38; omega
          subst e8
          refine gm_arr (by decide) (fun i hi => cp_all hi) ?_
          first | refine go_aload_n (i := 0) X rfl rfl dc_M_plain_61 ?_ | refine go_aloadN_n (i := 0) X rfl rfl dc_M_plain_61 ?_
          refine go_iload_n (i := 1) X rfl rfl dc_M_plain_62 ?_
          refine go_iload_n (i := 2) X rfl rfl dc_M_plain_63 ?_
          refine go_iload_n (i := 3) X rfl rfl dc_M_plain_64 ?_
          refine go_cV (C := rn_M) (ci := 7) (i := 0) (n := 3) (rest := []) X hN (tm_act l D T ad A nw K n (ρ := u1_ (u2_ (u2_ ρ 0 0 0) 0 2 (ρ 0 3)) 24 (ρ 25)) hK hz) ml_M_116 im_M_act sl_M_Mact ik_M co_M_act ⟨rfl, by decide, by decide, by decide +kernel⟩ ⟨rfl, rfl, by decide, by decide⟩ rfl (wl_at (by decide)) rfl rfl (Nat.le_of_ble_eq_true rfl) dc_M_plain_65 ⟨Nat.zero_le _, Nat.zero_le _⟩ ?_
          refine go_istore (i := 4) X (by decide) dc_M_plain_68 ?_
          first | refine go_aload_n (i := 0) X rfl rfl dc_M_plain_70 ?_ | refine go_aloadN_n (i := 0) X rfl rfl dc_M_plain_70 ?_
          first | refine go_aload_n (i := 0) X rfl rfl dc_M_plain_71 ?_ | refine go_aloadN_n (i := 0) X rfl rfl dc_M_plain_71 ?_
          refine gm_get (v := .int (pa_ K op a b (ρ 25) (ρ 0 3)).2.1) X 28 (by decide) fl_M_102 rfl dc_M_plain_72 ?_
          refine gm_put X 30 3 (by decide) fl_M_160 rfl (tk_M 30 (by decide)) (mF_s3 _ _ _ _ _) dc_M_plain_75 ?_
          refine go_iconst (v := nI 0) X (by decide) dc_M_plain_78 ?_
          refine go_istore (i := 5) X (by decide) dc_M_plain_79 ?_
          refine go_loc (L' := [(0, .ref (ad 0)), (1, .int op), (2, .int a), (3, .int b), (4, .int (pa_ K op a b (ρ 25) (ρ 0 3)).2.2), (5, .int (nI 0))]) rfl ?_
          refine go_eqw (w' := mW_ T ad K n (u1_ (u2_ (hm_act K op a b (u1_ (u2_ (u2_ ρ 0 0 0) 0 2 (ρ 0 3)) 24 (ρ 25))) 0 3 (pa_ K op a b (ρ 25) (ρ 0 3)).2.1) 25 (cp_ (ρ 25) (pa_ K op a b (ρ 25) (ρ 0 3)).1 0))) (congrArg _ (by rw [cp_0]; exact (u1_id (u2_ (hm_act K op a b (u1_ (u2_ (u2_ ρ 0 0 0) 0 2 (ρ 0 3)) 24 (ρ 25))) 0 3 (pa_ K op a b (ρ 25) (ρ 0 3)).2.1) 25).symm)) ?_
          refine (lp_up (P := fun j => Go_ P l e (rm_d 2) s m args below meth c D cl_ A 6 0 0 _ (mW_ T ad K n (u1_ (u2_ (hm_act K op a b (u1_ (u2_ (u2_ ρ 0 0 0) 0 2 (ρ 0 3)) 24 (ρ 25))) 0 3 (pa_ K op a b (ρ 25) (ρ 0 3)).2.1) 25 (cp_ (ρ 25) (pa_ K op a b (ρ 25) (ρ 0 3)).1 j))) 81 [(0, .ref (ad 0)), (1, .int op), (2, .int a), (3, .int b), (4, .int (pa_ K op a b (ρ 25) (ρ 0 3)).2.2), (5, .int (nI j))] []) 8 (fun j hj ih => ?_)) 0 (Nat.zero_le _)
          refine go_iload (i := 5) X rfl dc_M_plain_81 ?_
          refine go_bipush (v := 8) X (by decide) dc_M_plain_83 ?_
          refine go_icmp_ge (tgt := 108) X dc_M_plain_85 (by decide) (fun h85 => ?_) (fun h85 => ?_)
          · have e8 : j = 8 := by rw [iz_le, iz_8, iz_nI (by omega)] at h85; omega
            subst e8
            refine gm_arr (by decide) (fun i hi => cp_all hi) ?_
            refine go_iload (i := 4) X rfl dc_M_plain_108 ?_
            exact go_iret X hr dc_M_plain_110 rfl rfl
          · have hlt : j < 8 := by rw [iz_le, iz_8, iz_nI (by omega)] at h85; omega
            have hx : Ix_ (nI j) 8 j := Ix_n hlt (by decide)
            first | refine go_aload_n (i := 0) X rfl rfl dc_M_plain_88 ?_ | refine go_aloadN_n (i := 0) X rfl rfl dc_M_plain_88 ?_
            refine gm_get X 29 (by decide) fl_M_83 rfl dc_M_plain_89 ?_
            refine go_iload (i := 5) X rfl dc_M_plain_92 ?_
            first | refine go_aload_n (i := 0) X rfl rfl dc_M_plain_94 ?_ | refine go_aloadN_n (i := 0) X rfl rfl dc_M_plain_94 ?_
            refine gm_get X 27 (by decide) fl_M_80 rfl dc_M_plain_95 ?_
            refine go_iload (i := 5) X rfl dc_M_plain_98 ?_
            refine gm_ld (f := (pa_ K op a b (ρ 25) (ρ 0 3)).1) X rfl (by decide) (by assumption) dc_M_plain_100 ?_
            refine gm_st X (by decide) (by assumption) dc_M_plain_101 ?_
            refine go_iinc (i := 5) (v := nI (j + 1)) X rfl (by rw [lit1]; exact nI_1 j) (by decide) dc_M_plain_102 ?_
            refine go_goto (tgt := 81) X dc_M_plain_105 (by decide) ?_
            refine go_loc (L' := [(0, .ref (ad 0)), (1, .int op), (2, .int a), (3, .int b), (4, .int (pa_ K op a b (ρ 25) (ρ 0 3)).2.2), (5, .int (nI (j + 1)))]) rfl ?_
            refine go_eqw (w' := mW_ T ad K n (u1_ (u2_ (hm_act K op a b (u1_ (u2_ (u2_ ρ 0 0 0) 0 2 (ρ 0 3)) 24 (ρ 25))) 0 3 (pa_ K op a b (ρ 25) (ρ 0 3)).2.1) 25 (cp_ (ρ 25) (pa_ K op a b (ρ 25) (ρ 0 3)).1 (j + 1)))) (congrArg _ (by rw [u12_id, cp_s])) ?_
            exact ih (by omega)
        · have hlt : j < 8 := by rw [iz_le, iz_8, iz_nI (by omega)] at h38; omega
          have hx : Ix_ (nI j) 8 j := Ix_n hlt (by decide)
          first | refine go_aload_n (i := 0) X rfl rfl dc_M_plain_41 ?_ | refine go_aloadN_n (i := 0) X rfl rfl dc_M_plain_41 ?_
          refine gm_get X 27 (by decide) fl_M_80 rfl dc_M_plain_42 ?_
          refine go_iload (i := 4) X rfl dc_M_plain_45 ?_
          first | refine go_aload_n (i := 0) X rfl rfl dc_M_plain_47 ?_ | refine go_aloadN_n (i := 0) X rfl rfl dc_M_plain_47 ?_
          refine gm_get X 29 (by decide) fl_M_83 rfl dc_M_plain_48 ?_
          refine go_iload (i := 4) X rfl dc_M_plain_51 ?_
          refine gm_ld (f := ρ 25) X rfl (by decide) (by assumption) dc_M_plain_53 ?_
          refine gm_st X (by decide) (by assumption) dc_M_plain_54 ?_
          refine go_iinc (i := 4) (v := nI (j + 1)) X rfl (by rw [lit1]; exact nI_1 j) (by decide) dc_M_plain_55 ?_
          refine go_goto (tgt := 34) X dc_M_plain_58 (by decide) ?_
          refine go_loc (L' := [(0, .ref (ad 0)), (1, .int op), (2, .int a), (3, .int b), (4, .int (nI (j + 1)))]) rfl ?_
          refine go_eqw (w' := mW_ T ad K n (u1_ (u2_ (u2_ ρ 0 0 0) 0 2 (ρ 0 3)) 24 (cp_ (ρ 24) (ρ 25) (j + 1)))) (congrArg _ (by rw [u12_id, cp_s])) ?_
          exact ih (by omega)
      · exact absurd rfl h18
    · exact absurd ho.2 h7
set_option maxHeartbeats 4000000 in
set_option maxRecDepth 20000 in
theorem tm_cut (l : Launch) (D : va_G) (T : Nat → ClassId) (ad : Nat → Nat) (A : Nat → Prop) (nw : List Cond) (K n : Nat) {ρ : ST_} (hn : n ≤ 5) (h0 : 0 < n) (h8 : ∀ q, q < n → Ix_ (ρ 8 q) 32 (ix_ (ρ 8 q))) : cm_ l D T ad K n A nw yn_M_cut (.code yn_M_cut cd_M_cut 6 (some .int)) 1 [] ρ (hm_cut n (u2_ ρ 0 0 0)).1 (some (.int (hm_cut n (u2_ ρ 0 0 0)).2)) := by
  refine go_in (by decide) (Nat.le_of_ble_eq_true rfl) (List.forall_mem_cons.mpr ⟨rfl, fun _ h => nomatch h⟩) ?_
  intro P e s m args below meth c X hr hnm hN
  replace X : Cx_ P l e (rm_d 1) s m args below meth c cd_M_cut 6 rn_M D cl_ (tys_ T) TG_ := X
  refine go_loc (L' := [(0, .ref (ad 0))]) rfl ?_
  first | refine go_aload_n (i := 0) X rfl rfl dc_M_cut_0 ?_ | refine go_aloadN_n (i := 0) X rfl rfl dc_M_cut_0 ?_
  refine go_iconst (v := 0) X (by decide) dc_M_cut_1 ?_
  refine gm_put X 0 0 (by decide) fl_M_99 rfl (tk_M 0 (by decide)) (mF_s0 _ _ _ _ _) dc_M_cut_2 ?_
  obtain ⟨τ, hτ⟩ : ∃ τ, τ = u2_ ρ 0 0 0 := ⟨_, rfl⟩
  have h8t : ∀ q, q < n → Ix_ (τ 8 q) 32 (ix_ (τ 8 q)) := by rw [hτ]; exact h8
  rw [← hτ]
  clear hτ h8
  refine go_iconst (v := hm_farF τ 0) X (by show Int32.ofInt 0 = 0; decide) dc_M_cut_5 ?_
  refine go_istore_n (i := 1) X rfl (by decide) dc_M_cut_6 ?_
  refine go_iconst (v := nI (0 + 1)) X (by decide) dc_M_cut_7 ?_
  refine go_istore_n (i := 2) X rfl (by decide) dc_M_cut_8 ?_
  refine go_loc (L' := [(0, .ref (ad 0)), (1, .int (hm_farF τ 0)), (2, .int (nI (0 + 1)))]) rfl ?_
  refine (lp_up (P := fun j => Go_ P l e (rm_d 1) s m args below meth c D cl_ A 6 0 0 _ (mW_ T ad K n (τ)) 9 [(0, .ref (ad 0)), (1, .int (hm_farF τ j)), (2, .int (nI (j + 1)))] []) (n - 1) (fun j hj ih => ?_)) 0 (Nat.zero_le _)
  refine go_iload_n (i := 2) X rfl rfl dc_M_cut_9 ?_
  first | refine go_aload_n (i := 0) X rfl rfl dc_M_cut_10 ?_ | refine go_aloadN_n (i := 0) X rfl rfl dc_M_cut_10 ?_
  refine gm_get X 2 (by decide) fl_M_90 rfl dc_M_cut_11 ?_
  refine go_icmp_ge (tgt := 54) X dc_M_cut_14 (by decide) (fun h14 => ?_) (fun h14 => ?_)
  · have ej : j = n - 1 := by rw [iz_le, iz_nI (by omega), iz_nI (by omega)] at h14; omega
    subst ej
    obtain ⟨q, hq, eq⟩ := far_nI τ (n - 1)
    have hq5 : q < n := by omega
    have hfx : Ix_ (hm_farF τ (n - 1)) 5 (ix_ (hm_farF τ (n - 1))) := by rw [eq]; exact ⟨vp_in_nI (by omega) (by decide), rfl⟩
    have hHI : Ix_ (τ 8 (ix_ (hm_farF τ (n - 1)))) 32 (ix_ (τ 8 (ix_ (hm_farF τ (n - 1))))) := by rw [show ix_ (hm_farF τ (n - 1)) = q by rw [eq]; exact nI_clamp (by omega)]; exact h8t q hq5
    first | refine go_aload_n (i := 0) X rfl rfl dc_M_cut_54 ?_ | refine go_aloadN_n (i := 0) X rfl rfl dc_M_cut_54 ?_
    refine gm_get X 10 (by decide) fl_M_32 rfl dc_M_cut_55 ?_
    refine go_iload_n (i := 1) X rfl rfl dc_M_cut_58 ?_
    refine gm_ld (f := τ 8) X rfl (by decide) (by assumption) dc_M_cut_59 ?_
    refine go_istore_n (i := 2) X rfl (by decide) dc_M_cut_60 ?_
    first | refine go_aload_n (i := 0) X rfl rfl dc_M_cut_61 ?_ | refine go_aloadN_n (i := 0) X rfl rfl dc_M_cut_61 ?_
    refine gm_get X 4 (by decide) fl_M_13 rfl dc_M_cut_62 ?_
    refine go_iload_n (i := 2) X rfl rfl dc_M_cut_65 ?_
    refine gm_ld (f := τ 2) X rfl (by decide) (by assumption) dc_M_cut_66 ?_
    refine go_istore_n (i := 3) X rfl (by decide) dc_M_cut_67 ?_
    refine go_iconst (v := nI 0) X (by decide) dc_M_cut_68 ?_
    refine go_istore (i := 4) X (by decide) dc_M_cut_69 ?_
    refine go_loc (L' := [(0, .ref (ad 0)), (1, .int (hm_farF τ (n - 1))), (2, .int (τ 8 (ix_ (hm_farF τ (n - 1))))), (3, .int (ml_ τ (τ 8 (ix_ (hm_farF τ (n - 1)))) (τ 2 (ix_ (τ 8 (ix_ (hm_farF τ (n - 1)))))) 0)), (4, .int (nI 0))]) rfl ?_
    refine go_eqw (w' := mW_ T ad K n (u1_ τ 8 (br_ τ (τ 8 (ix_ (hm_farF τ (n - 1)))) 0))) (congrArg _ (br_zero τ (τ 8 (ix_ (hm_farF τ (n - 1))))).symm) ?_
    refine (lp_up (P := fun j => Go_ P l e (rm_d 1) s m args below meth c D cl_ A 6 0 0 _ (mW_ T ad K n (u1_ τ 8 (br_ τ (τ 8 (ix_ (hm_farF τ (n - 1)))) j))) 71 [(0, .ref (ad 0)), (1, .int (hm_farF τ (n - 1))), (2, .int (τ 8 (ix_ (hm_farF τ (n - 1))))), (3, .int (ml_ τ (τ 8 (ix_ (hm_farF τ (n - 1)))) (τ 2 (ix_ (τ 8 (ix_ (hm_farF τ (n - 1)))))) j)), (4, .int (nI j))] []) n (fun j hj ih => ?_)) 0 (Nat.zero_le _)
    refine go_iload (i := 4) X rfl dc_M_cut_71 ?_
    first | refine go_aload_n (i := 0) X rfl rfl dc_M_cut_73 ?_ | refine go_aloadN_n (i := 0) X rfl rfl dc_M_cut_73 ?_
    refine gm_get X 2 (by decide) fl_M_90 rfl dc_M_cut_74 ?_
    refine go_icmp_ge (tgt := 148) X dc_M_cut_77 (by decide) (fun h77 => ?_) (fun h77 => ?_)
    · have ej : n = j := by rw [iz_le, iz_nI (by omega), iz_nI (by omega)] at h77; omega
      subst ej
      first | refine go_aload_n (i := 0) X rfl rfl dc_M_cut_148 ?_ | refine go_aloadN_n (i := 0) X rfl rfl dc_M_cut_148 ?_
      refine go_cV (C := rn_M) (ci := 7) (i := 0) (n := 0) (rest := []) X hN (tm_inUseCount l D T ad A nw K n) ml_M_157 im_M_inUseCount sl_M_MinUseCount ik_M co_M_inUseCount ⟨rfl, by decide, by decide, by decide +kernel⟩ ⟨rfl, rfl, by decide, by decide⟩ rfl (wl_at (by decide)) rfl rfl (Nat.le_of_ble_eq_true rfl) dc_M_cut_149 ⟨Nat.zero_le _, Nat.zero_le _⟩ ?_
      refine go_istore (i := 4) X (by decide) dc_M_cut_152 ?_
      refine go_iconst (v := nI 0) X (by decide) dc_M_cut_154 ?_
      refine go_istore (i := 5) X (by decide) dc_M_cut_155 ?_
      refine go_loc (L' := [(0, .ref (ad 0)), (1, .int (hm_farF τ (n - 1))), (2, .int (τ 8 (ix_ (hm_farF τ (n - 1))))), (3, .int (ml_ τ (τ 8 (ix_ (hm_farF τ (n - 1)))) (τ 2 (ix_ (τ 8 (ix_ (hm_farF τ (n - 1)))))) n)), (4, .int (hm_used (u1_ τ 8 (br_ τ (τ 8 (ix_ (hm_farF τ (n - 1)))) n)))), (5, .int (nI 0))]) rfl ?_
      refine go_eqw (w' := mW_ T ad K n (u1_ (u1_ τ 8 (br_ τ (τ 8 (ix_ (hm_farF τ (n - 1)))) n)) 1 (rl_ (u1_ τ 8 (br_ τ (τ 8 (ix_ (hm_farF τ (n - 1)))) n)) (ml_ τ (τ 8 (ix_ (hm_farF τ (n - 1)))) (τ 2 (ix_ (τ 8 (ix_ (hm_farF τ (n - 1)))))) n) 0))) (congrArg _ (rl_zero (u1_ τ 8 (br_ τ (τ 8 (ix_ (hm_farF τ (n - 1)))) n)) (ml_ τ (τ 8 (ix_ (hm_farF τ (n - 1)))) (τ 2 (ix_ (τ 8 (ix_ (hm_farF τ (n - 1)))))) n)).symm) ?_
      refine (lp_up (P := fun j => Go_ P l e (rm_d 1) s m args below meth c D cl_ A 6 0 0 _ (mW_ T ad K n (u1_ (u1_ τ 8 (br_ τ (τ 8 (ix_ (hm_farF τ (n - 1)))) n)) 1 (rl_ (u1_ τ 8 (br_ τ (τ 8 (ix_ (hm_farF τ (n - 1)))) n)) (ml_ τ (τ 8 (ix_ (hm_farF τ (n - 1)))) (τ 2 (ix_ (τ 8 (ix_ (hm_farF τ (n - 1)))))) n) j))) 157 [(0, .ref (ad 0)), (1, .int (hm_farF τ (n - 1))), (2, .int (τ 8 (ix_ (hm_farF τ (n - 1))))), (3, .int (ml_ τ (τ 8 (ix_ (hm_farF τ (n - 1)))) (τ 2 (ix_ (τ 8 (ix_ (hm_farF τ (n - 1)))))) n)), (4, .int (hm_used (u1_ τ 8 (br_ τ (τ 8 (ix_ (hm_farF τ (n - 1)))) n)))), (5, .int (nI j))] []) 32 (fun j hj ih => ?_)) 0 (Nat.zero_le _)
      refine go_iload (i := 5) X rfl dc_M_cut_157 ?_
      refine go_bipush (v := 32) X (by decide) dc_M_cut_159 ?_
      refine go_icmp_ge (tgt := 209) X dc_M_cut_161 (by decide) (fun h161 => ?_) (fun h161 => ?_)
      · have e32 : j = 32 := by rw [iz_le, iz_32, iz_nI (by omega)] at h161; omega
        subst e32
        refine go_iload (i := 4) X rfl dc_M_cut_209 ?_
        first | refine go_aload_n (i := 0) X rfl rfl dc_M_cut_211 ?_ | refine go_aloadN_n (i := 0) X rfl rfl dc_M_cut_211 ?_
        refine go_cV (C := rn_M) (ci := 7) (i := 0) (n := 0) (rest := [.int (hm_used (u1_ τ 8 (br_ τ (τ 8 (ix_ (hm_farF τ (n - 1)))) n)))]) X hN (tm_inUseCount l D T ad A nw K n) ml_M_157 im_M_inUseCount sl_M_MinUseCount ik_M co_M_inUseCount ⟨rfl, by decide, by decide, by decide +kernel⟩ ⟨rfl, rfl, by decide, by decide⟩ rfl (wl_at (by decide)) rfl rfl (Nat.le_of_ble_eq_true rfl) dc_M_cut_212 ⟨Nat.zero_le _, Nat.zero_le _⟩ ?_
        refine go_isub X dc_M_cut_215 ?_
        exact go_iret X hr dc_M_cut_216 (congrArg (mW_ T ad K n) (by unfold hm_cut; rw [hm_br]; dsimp only; rw [hm_rel])) (congrArg some (congrArg Value.int (by unfold hm_cut; rw [hm_br]; dsimp only; rw [hm_rel])))
      · have hlt : j < 32 := by rw [iz_le, iz_32, iz_nI (by omega)] at h161; omega
        have hx : Ix_ (nI j) 32 j := Ix_n hlt (by decide)
        first | refine go_aload_n (i := 0) X rfl rfl dc_M_cut_164 ?_ | refine go_aloadN_n (i := 0) X rfl rfl dc_M_cut_164 ?_
        refine gm_get X 3 (by decide) fl_M_7 rfl dc_M_cut_165 ?_
        refine go_iload (i := 5) X rfl dc_M_cut_168 ?_
        refine gm_zld (f := rl_ (u1_ τ 8 (br_ τ (τ 8 (ix_ (hm_farF τ (n - 1)))) n)) (ml_ τ (τ 8 (ix_ (hm_farF τ (n - 1)))) (τ 2 (ix_ (τ 8 (ix_ (hm_farF τ (n - 1)))))) n) j) X (u1_same _ _ _) (by assumption) dc_M_cut_170 ?_
        rw [rl_self]
        refine go_if_eq (tgt := 203) X dc_M_cut_171 (by decide) (fun h171 => ?_) (fun h171 => ?_)
        · refine go_iinc (i := 5) (v := nI (j + 1)) X rfl (by rw [lit1]; exact nI_1 j) (by decide) dc_M_cut_203 ?_
          refine go_goto (tgt := 157) X dc_M_cut_206 (by decide) ?_
          first | (refine go_loc (L' := [(0, .ref (ad 0)), (1, .int (hm_farF τ (n - 1))), (2, .int (τ 8 (ix_ (hm_farF τ (n - 1))))), (3, .int (ml_ τ (τ 8 (ix_ (hm_farF τ (n - 1)))) (τ 2 (ix_ (τ 8 (ix_ (hm_farF τ (n - 1)))))) n)), (4, .int (hm_used (u1_ τ 8 (br_ τ (τ 8 (ix_ (hm_farF τ (n - 1)))) n)))), (5, .int (nI (j + 1)))]) rfl ?_; refine go_eqw (w' := mW_ T ad K n (u1_ (u1_ τ 8 (br_ τ (τ 8 (ix_ (hm_farF τ (n - 1)))) n)) 1 (rl_ (u1_ τ 8 (br_ τ (τ 8 (ix_ (hm_farF τ (n - 1)))) n)) (ml_ τ (τ 8 (ix_ (hm_farF τ (n - 1)))) (τ 2 (ix_ (τ 8 (ix_ (hm_farF τ (n - 1)))))) n) (j + 1)))) (congrArg _ (rl_succ_t ⟨on_iff.mpr ⟨h171, (by show 0 < τ 2 j; rw [iz_lt, iz_0]; rw [iz_le, iz_0] at h181; omega)⟩, (by show τ 2 j < _; rw [iz_lt]; rw [iz_le] at h192; omega)⟩)) ?_; exact ih hlt) | (refine go_loc (L' := [(0, .ref (ad 0)), (1, .int (hm_farF τ (n - 1))), (2, .int (τ 8 (ix_ (hm_farF τ (n - 1))))), (3, .int (ml_ τ (τ 8 (ix_ (hm_farF τ (n - 1)))) (τ 2 (ix_ (τ 8 (ix_ (hm_farF τ (n - 1)))))) n)), (4, .int (hm_used (u1_ τ 8 (br_ τ (τ 8 (ix_ (hm_farF τ (n - 1)))) n)))), (5, .int (nI (j + 1)))]) rfl ?_; refine go_eqw (w' := mW_ T ad K n (u1_ (u1_ τ 8 (br_ τ (τ 8 (ix_ (hm_farF τ (n - 1)))) n)) 1 (rl_ (u1_ τ 8 (br_ τ (τ 8 (ix_ (hm_farF τ (n - 1)))) n)) (ml_ τ (τ 8 (ix_ (hm_farF τ (n - 1)))) (τ 2 (ix_ (τ 8 (ix_ (hm_farF τ (n - 1)))))) n) (j + 1)))) (congrArg _ (rl_succ_f (fun q => absurd q.2 (by show ¬ τ 2 j < _; rw [iz_lt]; rw [iz_le] at h192; omega)))) ?_; exact ih hlt) | (refine go_loc (L' := [(0, .ref (ad 0)), (1, .int (hm_farF τ (n - 1))), (2, .int (τ 8 (ix_ (hm_farF τ (n - 1))))), (3, .int (ml_ τ (τ 8 (ix_ (hm_farF τ (n - 1)))) (τ 2 (ix_ (τ 8 (ix_ (hm_farF τ (n - 1)))))) n)), (4, .int (hm_used (u1_ τ 8 (br_ τ (τ 8 (ix_ (hm_farF τ (n - 1)))) n)))), (5, .int (nI (j + 1)))]) rfl ?_; refine go_eqw (w' := mW_ T ad K n (u1_ (u1_ τ 8 (br_ τ (τ 8 (ix_ (hm_farF τ (n - 1)))) n)) 1 (rl_ (u1_ τ 8 (br_ τ (τ 8 (ix_ (hm_farF τ (n - 1)))) n)) (ml_ τ (τ 8 (ix_ (hm_farF τ (n - 1)))) (τ 2 (ix_ (τ 8 (ix_ (hm_farF τ (n - 1)))))) n) (j + 1)))) (congrArg _ (rl_succ_f (fun q => absurd (on_iff.mp q.1).2 (by show ¬ 0 < τ 2 j; rw [iz_lt, iz_0]; rw [iz_le, iz_0] at h181; omega)))) ?_; exact ih hlt) | (refine go_loc (L' := [(0, .ref (ad 0)), (1, .int (hm_farF τ (n - 1))), (2, .int (τ 8 (ix_ (hm_farF τ (n - 1))))), (3, .int (ml_ τ (τ 8 (ix_ (hm_farF τ (n - 1)))) (τ 2 (ix_ (τ 8 (ix_ (hm_farF τ (n - 1)))))) n)), (4, .int (hm_used (u1_ τ 8 (br_ τ (τ 8 (ix_ (hm_farF τ (n - 1)))) n)))), (5, .int (nI (j + 1)))]) rfl ?_; refine go_eqw (w' := mW_ T ad K n (u1_ (u1_ τ 8 (br_ τ (τ 8 (ix_ (hm_farF τ (n - 1)))) n)) 1 (rl_ (u1_ τ 8 (br_ τ (τ 8 (ix_ (hm_farF τ (n - 1)))) n)) (ml_ τ (τ 8 (ix_ (hm_farF τ (n - 1)))) (τ 2 (ix_ (τ 8 (ix_ (hm_farF τ (n - 1)))))) n) (j + 1)))) (congrArg _ (rl_succ_f (fun q => absurd h171 (on_iff.mp q.1).1))) ?_; exact ih hlt)
        · first | refine go_aload_n (i := 0) X rfl rfl dc_M_cut_174 ?_ | refine go_aloadN_n (i := 0) X rfl rfl dc_M_cut_174 ?_
          refine gm_get X 4 (by decide) fl_M_13 rfl dc_M_cut_175 ?_
          refine go_iload (i := 5) X rfl dc_M_cut_178 ?_
          refine gm_ld (f := τ 2) X rfl (by decide) (by assumption) dc_M_cut_180 ?_
          refine go_if_le (tgt := 203) X dc_M_cut_181 (by decide) (fun h181 => ?_) (fun h181 => ?_)
          · refine go_iinc (i := 5) (v := nI (j + 1)) X rfl (by rw [lit1]; exact nI_1 j) (by decide) dc_M_cut_203 ?_
            refine go_goto (tgt := 157) X dc_M_cut_206 (by decide) ?_
            first | (refine go_loc (L' := [(0, .ref (ad 0)), (1, .int (hm_farF τ (n - 1))), (2, .int (τ 8 (ix_ (hm_farF τ (n - 1))))), (3, .int (ml_ τ (τ 8 (ix_ (hm_farF τ (n - 1)))) (τ 2 (ix_ (τ 8 (ix_ (hm_farF τ (n - 1)))))) n)), (4, .int (hm_used (u1_ τ 8 (br_ τ (τ 8 (ix_ (hm_farF τ (n - 1)))) n)))), (5, .int (nI (j + 1)))]) rfl ?_; refine go_eqw (w' := mW_ T ad K n (u1_ (u1_ τ 8 (br_ τ (τ 8 (ix_ (hm_farF τ (n - 1)))) n)) 1 (rl_ (u1_ τ 8 (br_ τ (τ 8 (ix_ (hm_farF τ (n - 1)))) n)) (ml_ τ (τ 8 (ix_ (hm_farF τ (n - 1)))) (τ 2 (ix_ (τ 8 (ix_ (hm_farF τ (n - 1)))))) n) (j + 1)))) (congrArg _ (rl_succ_t ⟨on_iff.mpr ⟨h171, (by show 0 < τ 2 j; rw [iz_lt, iz_0]; rw [iz_le, iz_0] at h181; omega)⟩, (by show τ 2 j < _; rw [iz_lt]; rw [iz_le] at h192; omega)⟩)) ?_; exact ih hlt) | (refine go_loc (L' := [(0, .ref (ad 0)), (1, .int (hm_farF τ (n - 1))), (2, .int (τ 8 (ix_ (hm_farF τ (n - 1))))), (3, .int (ml_ τ (τ 8 (ix_ (hm_farF τ (n - 1)))) (τ 2 (ix_ (τ 8 (ix_ (hm_farF τ (n - 1)))))) n)), (4, .int (hm_used (u1_ τ 8 (br_ τ (τ 8 (ix_ (hm_farF τ (n - 1)))) n)))), (5, .int (nI (j + 1)))]) rfl ?_; refine go_eqw (w' := mW_ T ad K n (u1_ (u1_ τ 8 (br_ τ (τ 8 (ix_ (hm_farF τ (n - 1)))) n)) 1 (rl_ (u1_ τ 8 (br_ τ (τ 8 (ix_ (hm_farF τ (n - 1)))) n)) (ml_ τ (τ 8 (ix_ (hm_farF τ (n - 1)))) (τ 2 (ix_ (τ 8 (ix_ (hm_farF τ (n - 1)))))) n) (j + 1)))) (congrArg _ (rl_succ_f (fun q => absurd q.2 (by show ¬ τ 2 j < _; rw [iz_lt]; rw [iz_le] at h192; omega)))) ?_; exact ih hlt) | (refine go_loc (L' := [(0, .ref (ad 0)), (1, .int (hm_farF τ (n - 1))), (2, .int (τ 8 (ix_ (hm_farF τ (n - 1))))), (3, .int (ml_ τ (τ 8 (ix_ (hm_farF τ (n - 1)))) (τ 2 (ix_ (τ 8 (ix_ (hm_farF τ (n - 1)))))) n)), (4, .int (hm_used (u1_ τ 8 (br_ τ (τ 8 (ix_ (hm_farF τ (n - 1)))) n)))), (5, .int (nI (j + 1)))]) rfl ?_; refine go_eqw (w' := mW_ T ad K n (u1_ (u1_ τ 8 (br_ τ (τ 8 (ix_ (hm_farF τ (n - 1)))) n)) 1 (rl_ (u1_ τ 8 (br_ τ (τ 8 (ix_ (hm_farF τ (n - 1)))) n)) (ml_ τ (τ 8 (ix_ (hm_farF τ (n - 1)))) (τ 2 (ix_ (τ 8 (ix_ (hm_farF τ (n - 1)))))) n) (j + 1)))) (congrArg _ (rl_succ_f (fun q => absurd (on_iff.mp q.1).2 (by show ¬ 0 < τ 2 j; rw [iz_lt, iz_0]; rw [iz_le, iz_0] at h181; omega)))) ?_; exact ih hlt) | (refine go_loc (L' := [(0, .ref (ad 0)), (1, .int (hm_farF τ (n - 1))), (2, .int (τ 8 (ix_ (hm_farF τ (n - 1))))), (3, .int (ml_ τ (τ 8 (ix_ (hm_farF τ (n - 1)))) (τ 2 (ix_ (τ 8 (ix_ (hm_farF τ (n - 1)))))) n)), (4, .int (hm_used (u1_ τ 8 (br_ τ (τ 8 (ix_ (hm_farF τ (n - 1)))) n)))), (5, .int (nI (j + 1)))]) rfl ?_; refine go_eqw (w' := mW_ T ad K n (u1_ (u1_ τ 8 (br_ τ (τ 8 (ix_ (hm_farF τ (n - 1)))) n)) 1 (rl_ (u1_ τ 8 (br_ τ (τ 8 (ix_ (hm_farF τ (n - 1)))) n)) (ml_ τ (τ 8 (ix_ (hm_farF τ (n - 1)))) (τ 2 (ix_ (τ 8 (ix_ (hm_farF τ (n - 1)))))) n) (j + 1)))) (congrArg _ (rl_succ_f (fun q => absurd h171 (on_iff.mp q.1).1))) ?_; exact ih hlt)
          · first | refine go_aload_n (i := 0) X rfl rfl dc_M_cut_184 ?_ | refine go_aloadN_n (i := 0) X rfl rfl dc_M_cut_184 ?_
            refine gm_get X 4 (by decide) fl_M_13 rfl dc_M_cut_185 ?_
            refine go_iload (i := 5) X rfl dc_M_cut_188 ?_
            refine gm_ld (f := τ 2) X rfl (by decide) (by assumption) dc_M_cut_190 ?_
            refine go_iload_n (i := 3) X rfl rfl dc_M_cut_191 ?_
            refine go_icmp_ge (tgt := 203) X dc_M_cut_192 (by decide) (fun h192 => ?_) (fun h192 => ?_)
            · refine go_iinc (i := 5) (v := nI (j + 1)) X rfl (by rw [lit1]; exact nI_1 j) (by decide) dc_M_cut_203 ?_
              refine go_goto (tgt := 157) X dc_M_cut_206 (by decide) ?_
              first | (refine go_loc (L' := [(0, .ref (ad 0)), (1, .int (hm_farF τ (n - 1))), (2, .int (τ 8 (ix_ (hm_farF τ (n - 1))))), (3, .int (ml_ τ (τ 8 (ix_ (hm_farF τ (n - 1)))) (τ 2 (ix_ (τ 8 (ix_ (hm_farF τ (n - 1)))))) n)), (4, .int (hm_used (u1_ τ 8 (br_ τ (τ 8 (ix_ (hm_farF τ (n - 1)))) n)))), (5, .int (nI (j + 1)))]) rfl ?_; refine go_eqw (w' := mW_ T ad K n (u1_ (u1_ τ 8 (br_ τ (τ 8 (ix_ (hm_farF τ (n - 1)))) n)) 1 (rl_ (u1_ τ 8 (br_ τ (τ 8 (ix_ (hm_farF τ (n - 1)))) n)) (ml_ τ (τ 8 (ix_ (hm_farF τ (n - 1)))) (τ 2 (ix_ (τ 8 (ix_ (hm_farF τ (n - 1)))))) n) (j + 1)))) (congrArg _ (rl_succ_t ⟨on_iff.mpr ⟨h171, (by show 0 < τ 2 j; rw [iz_lt, iz_0]; rw [iz_le, iz_0] at h181; omega)⟩, (by show τ 2 j < _; rw [iz_lt]; rw [iz_le] at h192; omega)⟩)) ?_; exact ih hlt) | (refine go_loc (L' := [(0, .ref (ad 0)), (1, .int (hm_farF τ (n - 1))), (2, .int (τ 8 (ix_ (hm_farF τ (n - 1))))), (3, .int (ml_ τ (τ 8 (ix_ (hm_farF τ (n - 1)))) (τ 2 (ix_ (τ 8 (ix_ (hm_farF τ (n - 1)))))) n)), (4, .int (hm_used (u1_ τ 8 (br_ τ (τ 8 (ix_ (hm_farF τ (n - 1)))) n)))), (5, .int (nI (j + 1)))]) rfl ?_; refine go_eqw (w' := mW_ T ad K n (u1_ (u1_ τ 8 (br_ τ (τ 8 (ix_ (hm_farF τ (n - 1)))) n)) 1 (rl_ (u1_ τ 8 (br_ τ (τ 8 (ix_ (hm_farF τ (n - 1)))) n)) (ml_ τ (τ 8 (ix_ (hm_farF τ (n - 1)))) (τ 2 (ix_ (τ 8 (ix_ (hm_farF τ (n - 1)))))) n) (j + 1)))) (congrArg _ (rl_succ_f (fun q => absurd q.2 (by show ¬ τ 2 j < _; rw [iz_lt]; rw [iz_le] at h192; omega)))) ?_; exact ih hlt) | (refine go_loc (L' := [(0, .ref (ad 0)), (1, .int (hm_farF τ (n - 1))), (2, .int (τ 8 (ix_ (hm_farF τ (n - 1))))), (3, .int (ml_ τ (τ 8 (ix_ (hm_farF τ (n - 1)))) (τ 2 (ix_ (τ 8 (ix_ (hm_farF τ (n - 1)))))) n)), (4, .int (hm_used (u1_ τ 8 (br_ τ (τ 8 (ix_ (hm_farF τ (n - 1)))) n)))), (5, .int (nI (j + 1)))]) rfl ?_; refine go_eqw (w' := mW_ T ad K n (u1_ (u1_ τ 8 (br_ τ (τ 8 (ix_ (hm_farF τ (n - 1)))) n)) 1 (rl_ (u1_ τ 8 (br_ τ (τ 8 (ix_ (hm_farF τ (n - 1)))) n)) (ml_ τ (τ 8 (ix_ (hm_farF τ (n - 1)))) (τ 2 (ix_ (τ 8 (ix_ (hm_farF τ (n - 1)))))) n) (j + 1)))) (congrArg _ (rl_succ_f (fun q => absurd (on_iff.mp q.1).2 (by show ¬ 0 < τ 2 j; rw [iz_lt, iz_0]; rw [iz_le, iz_0] at h181; omega)))) ?_; exact ih hlt) | (refine go_loc (L' := [(0, .ref (ad 0)), (1, .int (hm_farF τ (n - 1))), (2, .int (τ 8 (ix_ (hm_farF τ (n - 1))))), (3, .int (ml_ τ (τ 8 (ix_ (hm_farF τ (n - 1)))) (τ 2 (ix_ (τ 8 (ix_ (hm_farF τ (n - 1)))))) n)), (4, .int (hm_used (u1_ τ 8 (br_ τ (τ 8 (ix_ (hm_farF τ (n - 1)))) n)))), (5, .int (nI (j + 1)))]) rfl ?_; refine go_eqw (w' := mW_ T ad K n (u1_ (u1_ τ 8 (br_ τ (τ 8 (ix_ (hm_farF τ (n - 1)))) n)) 1 (rl_ (u1_ τ 8 (br_ τ (τ 8 (ix_ (hm_farF τ (n - 1)))) n)) (ml_ τ (τ 8 (ix_ (hm_farF τ (n - 1)))) (τ 2 (ix_ (τ 8 (ix_ (hm_farF τ (n - 1)))))) n) (j + 1)))) (congrArg _ (rl_succ_f (fun q => absurd h171 (on_iff.mp q.1).1))) ?_; exact ih hlt)
            · first | refine go_aload_n (i := 0) X rfl rfl dc_M_cut_195 ?_ | refine go_aloadN_n (i := 0) X rfl rfl dc_M_cut_195 ?_
              refine gm_get X 3 (by decide) fl_M_7 rfl dc_M_cut_196 ?_
              refine go_iload (i := 5) X rfl dc_M_cut_199 ?_
              refine go_iconst (v := 0) X (by decide) dc_M_cut_201 ?_
              refine gm_zst X (by assumption) (by decide) dc_M_cut_202 ?_
              refine go_iinc (i := 5) (v := nI (j + 1)) X rfl (by rw [lit1]; exact nI_1 j) (by decide) dc_M_cut_203 ?_
              refine go_goto (tgt := 157) X dc_M_cut_206 (by decide) ?_
              first | (refine go_loc (L' := [(0, .ref (ad 0)), (1, .int (hm_farF τ (n - 1))), (2, .int (τ 8 (ix_ (hm_farF τ (n - 1))))), (3, .int (ml_ τ (τ 8 (ix_ (hm_farF τ (n - 1)))) (τ 2 (ix_ (τ 8 (ix_ (hm_farF τ (n - 1)))))) n)), (4, .int (hm_used (u1_ τ 8 (br_ τ (τ 8 (ix_ (hm_farF τ (n - 1)))) n)))), (5, .int (nI (j + 1)))]) rfl ?_; refine go_eqw (w' := mW_ T ad K n (u1_ (u1_ τ 8 (br_ τ (τ 8 (ix_ (hm_farF τ (n - 1)))) n)) 1 (rl_ (u1_ τ 8 (br_ τ (τ 8 (ix_ (hm_farF τ (n - 1)))) n)) (ml_ τ (τ 8 (ix_ (hm_farF τ (n - 1)))) (τ 2 (ix_ (τ 8 (ix_ (hm_farF τ (n - 1)))))) n) (j + 1)))) (congrArg _ (rl_succ_t ⟨on_iff.mpr ⟨h171, (by show 0 < τ 2 j; rw [iz_lt, iz_0]; rw [iz_le, iz_0] at h181; omega)⟩, (by show τ 2 j < _; rw [iz_lt]; rw [iz_le] at h192; omega)⟩)) ?_; exact ih hlt) | (refine go_loc (L' := [(0, .ref (ad 0)), (1, .int (hm_farF τ (n - 1))), (2, .int (τ 8 (ix_ (hm_farF τ (n - 1))))), (3, .int (ml_ τ (τ 8 (ix_ (hm_farF τ (n - 1)))) (τ 2 (ix_ (τ 8 (ix_ (hm_farF τ (n - 1)))))) n)), (4, .int (hm_used (u1_ τ 8 (br_ τ (τ 8 (ix_ (hm_farF τ (n - 1)))) n)))), (5, .int (nI (j + 1)))]) rfl ?_; refine go_eqw (w' := mW_ T ad K n (u1_ (u1_ τ 8 (br_ τ (τ 8 (ix_ (hm_farF τ (n - 1)))) n)) 1 (rl_ (u1_ τ 8 (br_ τ (τ 8 (ix_ (hm_farF τ (n - 1)))) n)) (ml_ τ (τ 8 (ix_ (hm_farF τ (n - 1)))) (τ 2 (ix_ (τ 8 (ix_ (hm_farF τ (n - 1)))))) n) (j + 1)))) (congrArg _ (rl_succ_f (fun q => absurd q.2 (by show ¬ τ 2 j < _; rw [iz_lt]; rw [iz_le] at h192; omega)))) ?_; exact ih hlt) | (refine go_loc (L' := [(0, .ref (ad 0)), (1, .int (hm_farF τ (n - 1))), (2, .int (τ 8 (ix_ (hm_farF τ (n - 1))))), (3, .int (ml_ τ (τ 8 (ix_ (hm_farF τ (n - 1)))) (τ 2 (ix_ (τ 8 (ix_ (hm_farF τ (n - 1)))))) n)), (4, .int (hm_used (u1_ τ 8 (br_ τ (τ 8 (ix_ (hm_farF τ (n - 1)))) n)))), (5, .int (nI (j + 1)))]) rfl ?_; refine go_eqw (w' := mW_ T ad K n (u1_ (u1_ τ 8 (br_ τ (τ 8 (ix_ (hm_farF τ (n - 1)))) n)) 1 (rl_ (u1_ τ 8 (br_ τ (τ 8 (ix_ (hm_farF τ (n - 1)))) n)) (ml_ τ (τ 8 (ix_ (hm_farF τ (n - 1)))) (τ 2 (ix_ (τ 8 (ix_ (hm_farF τ (n - 1)))))) n) (j + 1)))) (congrArg _ (rl_succ_f (fun q => absurd (on_iff.mp q.1).2 (by show ¬ 0 < τ 2 j; rw [iz_lt, iz_0]; rw [iz_le, iz_0] at h181; omega)))) ?_; exact ih hlt) | (refine go_loc (L' := [(0, .ref (ad 0)), (1, .int (hm_farF τ (n - 1))), (2, .int (τ 8 (ix_ (hm_farF τ (n - 1))))), (3, .int (ml_ τ (τ 8 (ix_ (hm_farF τ (n - 1)))) (τ 2 (ix_ (τ 8 (ix_ (hm_farF τ (n - 1)))))) n)), (4, .int (hm_used (u1_ τ 8 (br_ τ (τ 8 (ix_ (hm_farF τ (n - 1)))) n)))), (5, .int (nI (j + 1)))]) rfl ?_; refine go_eqw (w' := mW_ T ad K n (u1_ (u1_ τ 8 (br_ τ (τ 8 (ix_ (hm_farF τ (n - 1)))) n)) 1 (rl_ (u1_ τ 8 (br_ τ (τ 8 (ix_ (hm_farF τ (n - 1)))) n)) (ml_ τ (τ 8 (ix_ (hm_farF τ (n - 1)))) (τ 2 (ix_ (τ 8 (ix_ (hm_farF τ (n - 1)))))) n) (j + 1)))) (congrArg _ (rl_succ_f (fun q => absurd h171 (on_iff.mp q.1).1))) ?_; exact ih hlt)
    · have hlt : j < n := by rw [iz_le, iz_nI (by omega), iz_nI (by omega)] at h77; omega
      have hx : Ix_ (nI j) 5 j := Ix_n (by omega) (by decide)
      have h8j := h8t j hlt
      first | refine go_aload_n (i := 0) X rfl rfl dc_M_cut_80 ?_ | refine go_aloadN_n (i := 0) X rfl rfl dc_M_cut_80 ?_
      refine gm_get X 10 (by decide) fl_M_32 rfl dc_M_cut_81 ?_
      refine go_iload (i := 4) X rfl dc_M_cut_84 ?_
      first | refine go_aload_n (i := 0) X rfl rfl dc_M_cut_86 ?_ | refine go_aloadN_n (i := 0) X rfl rfl dc_M_cut_86 ?_
      refine gm_get X 12 (by decide) fl_M_38 rfl dc_M_cut_87 ?_
      refine go_iload (i := 4) X rfl dc_M_cut_90 ?_
      refine gm_ld (f := τ 10) X rfl (by decide) (by assumption) dc_M_cut_92 ?_
      refine go_iconst (v := (-1)) X (by decide) dc_M_cut_93 ?_
      refine go_icmp_ne (tgt := 101) X dc_M_cut_94 (by decide) (fun h94 => ?_) (fun h94 => ?_)
      · first | refine go_aload_n (i := 0) X rfl rfl dc_M_cut_101 ?_ | refine go_aloadN_n (i := 0) X rfl rfl dc_M_cut_101 ?_
        refine gm_get X 10 (by decide) fl_M_32 rfl dc_M_cut_102 ?_
        refine go_iload (i := 4) X rfl dc_M_cut_105 ?_
        refine gm_ld (f := br_ τ (τ 8 (ix_ (hm_farF τ (n - 1)))) j) X (u1_same _ _ _) (by decide) (by assumption) dc_M_cut_107 ?_
        rw [br_self]
        refine gm_st X (by decide) (by assumption) dc_M_cut_108 ?_
        first | refine go_aload_n (i := 0) X rfl rfl dc_M_cut_109 ?_ | refine go_aloadN_n (i := 0) X rfl rfl dc_M_cut_109 ?_
        refine gm_get X 4 (by decide) fl_M_13 rfl dc_M_cut_110 ?_
        first | refine go_aload_n (i := 0) X rfl rfl dc_M_cut_113 ?_ | refine go_aloadN_n (i := 0) X rfl rfl dc_M_cut_113 ?_
        refine gm_get X 10 (by decide) fl_M_32 rfl dc_M_cut_114 ?_
        refine go_iload (i := 4) X rfl dc_M_cut_117 ?_
        refine gm_ld X rfl (by decide) (by assumption) dc_M_cut_119 ?_
        rw [u2_at, if_pos ⟨rfl, rfl⟩]
        refine gm_ld (f := τ 2) X rfl (by decide) (by assumption) dc_M_cut_120 ?_
        refine go_iload_n (i := 3) X rfl rfl dc_M_cut_121 ?_
        refine go_icmp_ge (tgt := 140) X dc_M_cut_122 (by decide) (fun h122 => ?_) (fun h122 => ?_)
        · refine go_iload_n (i := 3) X rfl rfl dc_M_cut_140 ?_
          refine go_istore_n (i := 3) X rfl (by decide) dc_M_cut_141 ?_
          refine go_iinc (i := 4) (v := nI (j + 1)) X rfl (by rw [lit1]; exact nI_1 j) (by decide) dc_M_cut_142 ?_
          refine go_goto (tgt := 71) X dc_M_cut_145 (by decide) ?_
          first | (have hc : (ml_ τ (τ 8 (ix_ (hm_farF τ (n - 1)))) (τ 2 (ix_ (τ 8 (ix_ (hm_farF τ (n - 1)))))) (j + 1)) = (ml_ τ (τ 8 (ix_ (hm_farF τ (n - 1)))) (τ 2 (ix_ (τ 8 (ix_ (hm_farF τ (n - 1)))))) j) := (by rw [ml_s, if_neg h94]; (repeat' split) <;> first | with_reducible rfl | (exfalso; clear ih; (simp only [iz_lt, iz_le, iz_eq, iz_0, iz_1, iz_2, iz_3, iz_4, iz_5, iz_6, iz_7, iz_8, iz_m] at *) <;> omega)); have ih2 := ih hlt; rw [hc] at ih2; refine go_loc (L' := [(0, .ref (ad 0)), (1, .int (hm_farF τ (n - 1))), (2, .int (τ 8 (ix_ (hm_farF τ (n - 1))))), (3, .int ((ml_ τ (τ 8 (ix_ (hm_farF τ (n - 1)))) (τ 2 (ix_ (τ 8 (ix_ (hm_farF τ (n - 1)))))) j))), (4, .int (nI (j + 1)))]) rfl ?_; refine go_eqw (w' := mW_ T ad K n (u1_ τ 8 (br_ τ (τ 8 (ix_ (hm_farF τ (n - 1)))) (j + 1)))) (congrArg _ (by rw [u12_id, ← br_succ, if_neg h94])) ?_; exact ih2) | (have hc : (ml_ τ (τ 8 (ix_ (hm_farF τ (n - 1)))) (τ 2 (ix_ (τ 8 (ix_ (hm_farF τ (n - 1)))))) (j + 1)) = τ 2 (ix_ (τ 8 j)) := (by rw [ml_s, if_neg h94]; (repeat' split) <;> first | with_reducible rfl | (exfalso; clear ih; (simp only [iz_lt, iz_le, iz_eq, iz_0, iz_1, iz_2, iz_3, iz_4, iz_5, iz_6, iz_7, iz_8, iz_m] at *) <;> omega)); have ih2 := ih hlt; rw [hc] at ih2; refine go_loc (L' := [(0, .ref (ad 0)), (1, .int (hm_farF τ (n - 1))), (2, .int (τ 8 (ix_ (hm_farF τ (n - 1))))), (3, .int (τ 2 (ix_ (τ 8 j)))), (4, .int (nI (j + 1)))]) rfl ?_; refine go_eqw (w' := mW_ T ad K n (u1_ τ 8 (br_ τ (τ 8 (ix_ (hm_farF τ (n - 1)))) (j + 1)))) (congrArg _ (by rw [u12_id, ← br_succ, if_neg h94])) ?_; exact ih2) | (have hc : (ml_ τ (τ 8 (ix_ (hm_farF τ (n - 1)))) (τ 2 (ix_ (τ 8 (ix_ (hm_farF τ (n - 1)))))) (j + 1)) = (ml_ τ (τ 8 (ix_ (hm_farF τ (n - 1)))) (τ 2 (ix_ (τ 8 (ix_ (hm_farF τ (n - 1)))))) j) := (by rw [ml_s, if_pos h94]; (repeat' split) <;> first | with_reducible rfl | (exfalso; clear ih; (simp only [iz_lt, iz_le, iz_eq, iz_0, iz_1, iz_2, iz_3, iz_4, iz_5, iz_6, iz_7, iz_8, iz_m] at *) <;> omega)); have ih2 := ih hlt; rw [hc] at ih2; refine go_loc (L' := [(0, .ref (ad 0)), (1, .int (hm_farF τ (n - 1))), (2, .int (τ 8 (ix_ (hm_farF τ (n - 1))))), (3, .int ((ml_ τ (τ 8 (ix_ (hm_farF τ (n - 1)))) (τ 2 (ix_ (τ 8 (ix_ (hm_farF τ (n - 1)))))) j))), (4, .int (nI (j + 1)))]) rfl ?_; refine go_eqw (w' := mW_ T ad K n (u1_ τ 8 (br_ τ (τ 8 (ix_ (hm_farF τ (n - 1)))) (j + 1)))) (congrArg _ (by rw [u12_id, ← br_succ, if_pos h94])) ?_; exact ih2) | (have hc : (ml_ τ (τ 8 (ix_ (hm_farF τ (n - 1)))) (τ 2 (ix_ (τ 8 (ix_ (hm_farF τ (n - 1)))))) (j + 1)) = τ 2 (ix_ (τ 8 (ix_ (hm_farF τ (n - 1))))) := (by rw [ml_s, if_pos h94]; (repeat' split) <;> first | with_reducible rfl | (exfalso; clear ih; (simp only [iz_lt, iz_le, iz_eq, iz_0, iz_1, iz_2, iz_3, iz_4, iz_5, iz_6, iz_7, iz_8, iz_m] at *) <;> omega)); have ih2 := ih hlt; rw [hc] at ih2; refine go_loc (L' := [(0, .ref (ad 0)), (1, .int (hm_farF τ (n - 1))), (2, .int (τ 8 (ix_ (hm_farF τ (n - 1))))), (3, .int (τ 2 (ix_ (τ 8 (ix_ (hm_farF τ (n - 1))))))), (4, .int (nI (j + 1)))]) rfl ?_; refine go_eqw (w' := mW_ T ad K n (u1_ τ 8 (br_ τ (τ 8 (ix_ (hm_farF τ (n - 1)))) (j + 1)))) (congrArg _ (by rw [u12_id, ← br_succ, if_pos h94])) ?_; exact ih2)
        · first | refine go_aload_n (i := 0) X rfl rfl dc_M_cut_125 ?_ | refine go_aloadN_n (i := 0) X rfl rfl dc_M_cut_125 ?_
          refine gm_get X 4 (by decide) fl_M_13 rfl dc_M_cut_126 ?_
          first | refine go_aload_n (i := 0) X rfl rfl dc_M_cut_129 ?_ | refine go_aloadN_n (i := 0) X rfl rfl dc_M_cut_129 ?_
          refine gm_get X 10 (by decide) fl_M_32 rfl dc_M_cut_130 ?_
          refine go_iload (i := 4) X rfl dc_M_cut_133 ?_
          refine gm_ld X rfl (by decide) (by assumption) dc_M_cut_135 ?_
          rw [u2_at, if_pos ⟨rfl, rfl⟩]
          refine gm_ld (f := τ 2) X rfl (by decide) (by assumption) dc_M_cut_136 ?_
          refine go_goto (tgt := 141) X dc_M_cut_137 (by decide) ?_
          refine go_istore_n (i := 3) X rfl (by decide) dc_M_cut_141 ?_
          refine go_iinc (i := 4) (v := nI (j + 1)) X rfl (by rw [lit1]; exact nI_1 j) (by decide) dc_M_cut_142 ?_
          refine go_goto (tgt := 71) X dc_M_cut_145 (by decide) ?_
          first | (have hc : (ml_ τ (τ 8 (ix_ (hm_farF τ (n - 1)))) (τ 2 (ix_ (τ 8 (ix_ (hm_farF τ (n - 1)))))) (j + 1)) = (ml_ τ (τ 8 (ix_ (hm_farF τ (n - 1)))) (τ 2 (ix_ (τ 8 (ix_ (hm_farF τ (n - 1)))))) j) := (by rw [ml_s, if_neg h94]; (repeat' split) <;> first | with_reducible rfl | (exfalso; clear ih; (simp only [iz_lt, iz_le, iz_eq, iz_0, iz_1, iz_2, iz_3, iz_4, iz_5, iz_6, iz_7, iz_8, iz_m] at *) <;> omega)); have ih2 := ih hlt; rw [hc] at ih2; refine go_loc (L' := [(0, .ref (ad 0)), (1, .int (hm_farF τ (n - 1))), (2, .int (τ 8 (ix_ (hm_farF τ (n - 1))))), (3, .int ((ml_ τ (τ 8 (ix_ (hm_farF τ (n - 1)))) (τ 2 (ix_ (τ 8 (ix_ (hm_farF τ (n - 1)))))) j))), (4, .int (nI (j + 1)))]) rfl ?_; refine go_eqw (w' := mW_ T ad K n (u1_ τ 8 (br_ τ (τ 8 (ix_ (hm_farF τ (n - 1)))) (j + 1)))) (congrArg _ (by rw [u12_id, ← br_succ, if_neg h94])) ?_; exact ih2) | (have hc : (ml_ τ (τ 8 (ix_ (hm_farF τ (n - 1)))) (τ 2 (ix_ (τ 8 (ix_ (hm_farF τ (n - 1)))))) (j + 1)) = τ 2 (ix_ (τ 8 j)) := (by rw [ml_s, if_neg h94]; (repeat' split) <;> first | with_reducible rfl | (exfalso; clear ih; (simp only [iz_lt, iz_le, iz_eq, iz_0, iz_1, iz_2, iz_3, iz_4, iz_5, iz_6, iz_7, iz_8, iz_m] at *) <;> omega)); have ih2 := ih hlt; rw [hc] at ih2; refine go_loc (L' := [(0, .ref (ad 0)), (1, .int (hm_farF τ (n - 1))), (2, .int (τ 8 (ix_ (hm_farF τ (n - 1))))), (3, .int (τ 2 (ix_ (τ 8 j)))), (4, .int (nI (j + 1)))]) rfl ?_; refine go_eqw (w' := mW_ T ad K n (u1_ τ 8 (br_ τ (τ 8 (ix_ (hm_farF τ (n - 1)))) (j + 1)))) (congrArg _ (by rw [u12_id, ← br_succ, if_neg h94])) ?_; exact ih2) | (have hc : (ml_ τ (τ 8 (ix_ (hm_farF τ (n - 1)))) (τ 2 (ix_ (τ 8 (ix_ (hm_farF τ (n - 1)))))) (j + 1)) = (ml_ τ (τ 8 (ix_ (hm_farF τ (n - 1)))) (τ 2 (ix_ (τ 8 (ix_ (hm_farF τ (n - 1)))))) j) := (by rw [ml_s, if_pos h94]; (repeat' split) <;> first | with_reducible rfl | (exfalso; clear ih; (simp only [iz_lt, iz_le, iz_eq, iz_0, iz_1, iz_2, iz_3, iz_4, iz_5, iz_6, iz_7, iz_8, iz_m] at *) <;> omega)); have ih2 := ih hlt; rw [hc] at ih2; refine go_loc (L' := [(0, .ref (ad 0)), (1, .int (hm_farF τ (n - 1))), (2, .int (τ 8 (ix_ (hm_farF τ (n - 1))))), (3, .int ((ml_ τ (τ 8 (ix_ (hm_farF τ (n - 1)))) (τ 2 (ix_ (τ 8 (ix_ (hm_farF τ (n - 1)))))) j))), (4, .int (nI (j + 1)))]) rfl ?_; refine go_eqw (w' := mW_ T ad K n (u1_ τ 8 (br_ τ (τ 8 (ix_ (hm_farF τ (n - 1)))) (j + 1)))) (congrArg _ (by rw [u12_id, ← br_succ, if_pos h94])) ?_; exact ih2) | (have hc : (ml_ τ (τ 8 (ix_ (hm_farF τ (n - 1)))) (τ 2 (ix_ (τ 8 (ix_ (hm_farF τ (n - 1)))))) (j + 1)) = τ 2 (ix_ (τ 8 (ix_ (hm_farF τ (n - 1))))) := (by rw [ml_s, if_pos h94]; (repeat' split) <;> first | with_reducible rfl | (exfalso; clear ih; (simp only [iz_lt, iz_le, iz_eq, iz_0, iz_1, iz_2, iz_3, iz_4, iz_5, iz_6, iz_7, iz_8, iz_m] at *) <;> omega)); have ih2 := ih hlt; rw [hc] at ih2; refine go_loc (L' := [(0, .ref (ad 0)), (1, .int (hm_farF τ (n - 1))), (2, .int (τ 8 (ix_ (hm_farF τ (n - 1))))), (3, .int (τ 2 (ix_ (τ 8 (ix_ (hm_farF τ (n - 1))))))), (4, .int (nI (j + 1)))]) rfl ?_; refine go_eqw (w' := mW_ T ad K n (u1_ τ 8 (br_ τ (τ 8 (ix_ (hm_farF τ (n - 1)))) (j + 1)))) (congrArg _ (by rw [u12_id, ← br_succ, if_pos h94])) ?_; exact ih2)
      · refine go_iload_n (i := 2) X rfl rfl dc_M_cut_97 ?_
        refine go_goto (tgt := 108) X dc_M_cut_98 (by decide) ?_
        refine gm_st X (by decide) (by assumption) dc_M_cut_108 ?_
        first | refine go_aload_n (i := 0) X rfl rfl dc_M_cut_109 ?_ | refine go_aloadN_n (i := 0) X rfl rfl dc_M_cut_109 ?_
        refine gm_get X 4 (by decide) fl_M_13 rfl dc_M_cut_110 ?_
        first | refine go_aload_n (i := 0) X rfl rfl dc_M_cut_113 ?_ | refine go_aloadN_n (i := 0) X rfl rfl dc_M_cut_113 ?_
        refine gm_get X 10 (by decide) fl_M_32 rfl dc_M_cut_114 ?_
        refine go_iload (i := 4) X rfl dc_M_cut_117 ?_
        refine gm_ld X rfl (by decide) (by assumption) dc_M_cut_119 ?_
        rw [u2_at, if_pos ⟨rfl, rfl⟩]
        refine gm_ld (f := τ 2) X rfl (by decide) (by assumption) dc_M_cut_120 ?_
        refine go_iload_n (i := 3) X rfl rfl dc_M_cut_121 ?_
        refine go_icmp_ge (tgt := 140) X dc_M_cut_122 (by decide) (fun h122 => ?_) (fun h122 => ?_)
        · refine go_iload_n (i := 3) X rfl rfl dc_M_cut_140 ?_
          refine go_istore_n (i := 3) X rfl (by decide) dc_M_cut_141 ?_
          refine go_iinc (i := 4) (v := nI (j + 1)) X rfl (by rw [lit1]; exact nI_1 j) (by decide) dc_M_cut_142 ?_
          refine go_goto (tgt := 71) X dc_M_cut_145 (by decide) ?_
          first | (have hc : (ml_ τ (τ 8 (ix_ (hm_farF τ (n - 1)))) (τ 2 (ix_ (τ 8 (ix_ (hm_farF τ (n - 1)))))) (j + 1)) = (ml_ τ (τ 8 (ix_ (hm_farF τ (n - 1)))) (τ 2 (ix_ (τ 8 (ix_ (hm_farF τ (n - 1)))))) j) := (by rw [ml_s, if_neg h94]; (repeat' split) <;> first | with_reducible rfl | (exfalso; clear ih; (simp only [iz_lt, iz_le, iz_eq, iz_0, iz_1, iz_2, iz_3, iz_4, iz_5, iz_6, iz_7, iz_8, iz_m] at *) <;> omega)); have ih2 := ih hlt; rw [hc] at ih2; refine go_loc (L' := [(0, .ref (ad 0)), (1, .int (hm_farF τ (n - 1))), (2, .int (τ 8 (ix_ (hm_farF τ (n - 1))))), (3, .int ((ml_ τ (τ 8 (ix_ (hm_farF τ (n - 1)))) (τ 2 (ix_ (τ 8 (ix_ (hm_farF τ (n - 1)))))) j))), (4, .int (nI (j + 1)))]) rfl ?_; refine go_eqw (w' := mW_ T ad K n (u1_ τ 8 (br_ τ (τ 8 (ix_ (hm_farF τ (n - 1)))) (j + 1)))) (congrArg _ (by rw [u12_id, ← br_succ, if_neg h94])) ?_; exact ih2) | (have hc : (ml_ τ (τ 8 (ix_ (hm_farF τ (n - 1)))) (τ 2 (ix_ (τ 8 (ix_ (hm_farF τ (n - 1)))))) (j + 1)) = τ 2 (ix_ (τ 8 j)) := (by rw [ml_s, if_neg h94]; (repeat' split) <;> first | with_reducible rfl | (exfalso; clear ih; (simp only [iz_lt, iz_le, iz_eq, iz_0, iz_1, iz_2, iz_3, iz_4, iz_5, iz_6, iz_7, iz_8, iz_m] at *) <;> omega)); have ih2 := ih hlt; rw [hc] at ih2; refine go_loc (L' := [(0, .ref (ad 0)), (1, .int (hm_farF τ (n - 1))), (2, .int (τ 8 (ix_ (hm_farF τ (n - 1))))), (3, .int (τ 2 (ix_ (τ 8 j)))), (4, .int (nI (j + 1)))]) rfl ?_; refine go_eqw (w' := mW_ T ad K n (u1_ τ 8 (br_ τ (τ 8 (ix_ (hm_farF τ (n - 1)))) (j + 1)))) (congrArg _ (by rw [u12_id, ← br_succ, if_neg h94])) ?_; exact ih2) | (have hc : (ml_ τ (τ 8 (ix_ (hm_farF τ (n - 1)))) (τ 2 (ix_ (τ 8 (ix_ (hm_farF τ (n - 1)))))) (j + 1)) = (ml_ τ (τ 8 (ix_ (hm_farF τ (n - 1)))) (τ 2 (ix_ (τ 8 (ix_ (hm_farF τ (n - 1)))))) j) := (by rw [ml_s, if_pos h94]; (repeat' split) <;> first | with_reducible rfl | (exfalso; clear ih; (simp only [iz_lt, iz_le, iz_eq, iz_0, iz_1, iz_2, iz_3, iz_4, iz_5, iz_6, iz_7, iz_8, iz_m] at *) <;> omega)); have ih2 := ih hlt; rw [hc] at ih2; refine go_loc (L' := [(0, .ref (ad 0)), (1, .int (hm_farF τ (n - 1))), (2, .int (τ 8 (ix_ (hm_farF τ (n - 1))))), (3, .int ((ml_ τ (τ 8 (ix_ (hm_farF τ (n - 1)))) (τ 2 (ix_ (τ 8 (ix_ (hm_farF τ (n - 1)))))) j))), (4, .int (nI (j + 1)))]) rfl ?_; refine go_eqw (w' := mW_ T ad K n (u1_ τ 8 (br_ τ (τ 8 (ix_ (hm_farF τ (n - 1)))) (j + 1)))) (congrArg _ (by rw [u12_id, ← br_succ, if_pos h94])) ?_; exact ih2) | (have hc : (ml_ τ (τ 8 (ix_ (hm_farF τ (n - 1)))) (τ 2 (ix_ (τ 8 (ix_ (hm_farF τ (n - 1)))))) (j + 1)) = τ 2 (ix_ (τ 8 (ix_ (hm_farF τ (n - 1))))) := (by rw [ml_s, if_pos h94]; (repeat' split) <;> first | with_reducible rfl | (exfalso; clear ih; (simp only [iz_lt, iz_le, iz_eq, iz_0, iz_1, iz_2, iz_3, iz_4, iz_5, iz_6, iz_7, iz_8, iz_m] at *) <;> omega)); have ih2 := ih hlt; rw [hc] at ih2; refine go_loc (L' := [(0, .ref (ad 0)), (1, .int (hm_farF τ (n - 1))), (2, .int (τ 8 (ix_ (hm_farF τ (n - 1))))), (3, .int (τ 2 (ix_ (τ 8 (ix_ (hm_farF τ (n - 1))))))), (4, .int (nI (j + 1)))]) rfl ?_; refine go_eqw (w' := mW_ T ad K n (u1_ τ 8 (br_ τ (τ 8 (ix_ (hm_farF τ (n - 1)))) (j + 1)))) (congrArg _ (by rw [u12_id, ← br_succ, if_pos h94])) ?_; exact ih2)
        · first | refine go_aload_n (i := 0) X rfl rfl dc_M_cut_125 ?_ | refine go_aloadN_n (i := 0) X rfl rfl dc_M_cut_125 ?_
          refine gm_get X 4 (by decide) fl_M_13 rfl dc_M_cut_126 ?_
          first | refine go_aload_n (i := 0) X rfl rfl dc_M_cut_129 ?_ | refine go_aloadN_n (i := 0) X rfl rfl dc_M_cut_129 ?_
          refine gm_get X 10 (by decide) fl_M_32 rfl dc_M_cut_130 ?_
          refine go_iload (i := 4) X rfl dc_M_cut_133 ?_
          refine gm_ld X rfl (by decide) (by assumption) dc_M_cut_135 ?_
          rw [u2_at, if_pos ⟨rfl, rfl⟩]
          refine gm_ld (f := τ 2) X rfl (by decide) (by assumption) dc_M_cut_136 ?_
          refine go_goto (tgt := 141) X dc_M_cut_137 (by decide) ?_
          refine go_istore_n (i := 3) X rfl (by decide) dc_M_cut_141 ?_
          refine go_iinc (i := 4) (v := nI (j + 1)) X rfl (by rw [lit1]; exact nI_1 j) (by decide) dc_M_cut_142 ?_
          refine go_goto (tgt := 71) X dc_M_cut_145 (by decide) ?_
          first | (have hc : (ml_ τ (τ 8 (ix_ (hm_farF τ (n - 1)))) (τ 2 (ix_ (τ 8 (ix_ (hm_farF τ (n - 1)))))) (j + 1)) = (ml_ τ (τ 8 (ix_ (hm_farF τ (n - 1)))) (τ 2 (ix_ (τ 8 (ix_ (hm_farF τ (n - 1)))))) j) := (by rw [ml_s, if_neg h94]; (repeat' split) <;> first | with_reducible rfl | (exfalso; clear ih; (simp only [iz_lt, iz_le, iz_eq, iz_0, iz_1, iz_2, iz_3, iz_4, iz_5, iz_6, iz_7, iz_8, iz_m] at *) <;> omega)); have ih2 := ih hlt; rw [hc] at ih2; refine go_loc (L' := [(0, .ref (ad 0)), (1, .int (hm_farF τ (n - 1))), (2, .int (τ 8 (ix_ (hm_farF τ (n - 1))))), (3, .int ((ml_ τ (τ 8 (ix_ (hm_farF τ (n - 1)))) (τ 2 (ix_ (τ 8 (ix_ (hm_farF τ (n - 1)))))) j))), (4, .int (nI (j + 1)))]) rfl ?_; refine go_eqw (w' := mW_ T ad K n (u1_ τ 8 (br_ τ (τ 8 (ix_ (hm_farF τ (n - 1)))) (j + 1)))) (congrArg _ (by rw [u12_id, ← br_succ, if_neg h94])) ?_; exact ih2) | (have hc : (ml_ τ (τ 8 (ix_ (hm_farF τ (n - 1)))) (τ 2 (ix_ (τ 8 (ix_ (hm_farF τ (n - 1)))))) (j + 1)) = τ 2 (ix_ (τ 8 j)) := (by rw [ml_s, if_neg h94]; (repeat' split) <;> first | with_reducible rfl | (exfalso; clear ih; (simp only [iz_lt, iz_le, iz_eq, iz_0, iz_1, iz_2, iz_3, iz_4, iz_5, iz_6, iz_7, iz_8, iz_m] at *) <;> omega)); have ih2 := ih hlt; rw [hc] at ih2; refine go_loc (L' := [(0, .ref (ad 0)), (1, .int (hm_farF τ (n - 1))), (2, .int (τ 8 (ix_ (hm_farF τ (n - 1))))), (3, .int (τ 2 (ix_ (τ 8 j)))), (4, .int (nI (j + 1)))]) rfl ?_; refine go_eqw (w' := mW_ T ad K n (u1_ τ 8 (br_ τ (τ 8 (ix_ (hm_farF τ (n - 1)))) (j + 1)))) (congrArg _ (by rw [u12_id, ← br_succ, if_neg h94])) ?_; exact ih2) | (have hc : (ml_ τ (τ 8 (ix_ (hm_farF τ (n - 1)))) (τ 2 (ix_ (τ 8 (ix_ (hm_farF τ (n - 1)))))) (j + 1)) = (ml_ τ (τ 8 (ix_ (hm_farF τ (n - 1)))) (τ 2 (ix_ (τ 8 (ix_ (hm_farF τ (n - 1)))))) j) := (by rw [ml_s, if_pos h94]; (repeat' split) <;> first | with_reducible rfl | (exfalso; clear ih; (simp only [iz_lt, iz_le, iz_eq, iz_0, iz_1, iz_2, iz_3, iz_4, iz_5, iz_6, iz_7, iz_8, iz_m] at *) <;> omega)); have ih2 := ih hlt; rw [hc] at ih2; refine go_loc (L' := [(0, .ref (ad 0)), (1, .int (hm_farF τ (n - 1))), (2, .int (τ 8 (ix_ (hm_farF τ (n - 1))))), (3, .int ((ml_ τ (τ 8 (ix_ (hm_farF τ (n - 1)))) (τ 2 (ix_ (τ 8 (ix_ (hm_farF τ (n - 1)))))) j))), (4, .int (nI (j + 1)))]) rfl ?_; refine go_eqw (w' := mW_ T ad K n (u1_ τ 8 (br_ τ (τ 8 (ix_ (hm_farF τ (n - 1)))) (j + 1)))) (congrArg _ (by rw [u12_id, ← br_succ, if_pos h94])) ?_; exact ih2) | (have hc : (ml_ τ (τ 8 (ix_ (hm_farF τ (n - 1)))) (τ 2 (ix_ (τ 8 (ix_ (hm_farF τ (n - 1)))))) (j + 1)) = τ 2 (ix_ (τ 8 (ix_ (hm_farF τ (n - 1))))) := (by rw [ml_s, if_pos h94]; (repeat' split) <;> first | with_reducible rfl | (exfalso; clear ih; (simp only [iz_lt, iz_le, iz_eq, iz_0, iz_1, iz_2, iz_3, iz_4, iz_5, iz_6, iz_7, iz_8, iz_m] at *) <;> omega)); have ih2 := ih hlt; rw [hc] at ih2; refine go_loc (L' := [(0, .ref (ad 0)), (1, .int (hm_farF τ (n - 1))), (2, .int (τ 8 (ix_ (hm_farF τ (n - 1))))), (3, .int (τ 2 (ix_ (τ 8 (ix_ (hm_farF τ (n - 1))))))), (4, .int (nI (j + 1)))]) rfl ?_; refine go_eqw (w' := mW_ T ad K n (u1_ τ 8 (br_ τ (τ 8 (ix_ (hm_farF τ (n - 1)))) (j + 1)))) (congrArg _ (by rw [u12_id, ← br_succ, if_pos h94])) ?_; exact ih2)
  · have hlt : j < n - 1 := by rw [iz_le, iz_nI (by omega), iz_nI (by omega)] at h14; omega
    obtain ⟨q, hq, eq⟩ := far_nI τ j
    have hfx : Ix_ (hm_farF τ j) 5 (ix_ (hm_farF τ j)) := by rw [eq]; exact ⟨vp_in_nI (by omega) (by decide), rfl⟩
    have hHJ : Ix_ (τ 8 (ix_ (hm_farF τ j))) 32 (ix_ (τ 8 (ix_ (hm_farF τ j)))) := by rw [show ix_ (hm_farF τ j) = q by rw [eq]; exact nI_clamp (by omega)]; exact h8t q (by omega)
    have hx : Ix_ (nI (j + 1)) 5 (j + 1) := Ix_n (by omega) (by decide)
    have h8j := h8t (j + 1) (by omega)
    first | refine go_aload_n (i := 0) X rfl rfl dc_M_cut_17 ?_ | refine go_aloadN_n (i := 0) X rfl rfl dc_M_cut_17 ?_
    refine gm_get X 4 (by decide) fl_M_13 rfl dc_M_cut_18 ?_
    first | refine go_aload_n (i := 0) X rfl rfl dc_M_cut_21 ?_ | refine go_aloadN_n (i := 0) X rfl rfl dc_M_cut_21 ?_
    refine gm_get X 10 (by decide) fl_M_32 rfl dc_M_cut_22 ?_
    refine go_iload_n (i := 2) X rfl rfl dc_M_cut_25 ?_
    refine gm_ld (f := τ 8) X rfl (by decide) (by assumption) dc_M_cut_26 ?_
    refine gm_ld (f := τ 2) X rfl (by decide) (by assumption) dc_M_cut_27 ?_
    first | refine go_aload_n (i := 0) X rfl rfl dc_M_cut_28 ?_ | refine go_aloadN_n (i := 0) X rfl rfl dc_M_cut_28 ?_
    refine gm_get X 4 (by decide) fl_M_13 rfl dc_M_cut_29 ?_
    first | refine go_aload_n (i := 0) X rfl rfl dc_M_cut_32 ?_ | refine go_aloadN_n (i := 0) X rfl rfl dc_M_cut_32 ?_
    refine gm_get X 10 (by decide) fl_M_32 rfl dc_M_cut_33 ?_
    refine go_iload_n (i := 1) X rfl rfl dc_M_cut_36 ?_
    refine gm_ld (f := τ 8) X rfl (by decide) (by assumption) dc_M_cut_37 ?_
    refine gm_ld (f := τ 2) X rfl (by decide) (by assumption) dc_M_cut_38 ?_
    refine go_icmp_le (tgt := 46) X dc_M_cut_39 (by decide) (fun h39 => ?_) (fun h39 => ?_)
    · refine go_iload_n (i := 1) X rfl rfl dc_M_cut_46 ?_
      refine go_istore_n (i := 1) X rfl (by decide) dc_M_cut_47 ?_
      refine go_iinc (i := 2) (v := nI (j + 1 + 1)) X rfl (by rw [lit1]; exact nI_1 (j + 1)) (by decide) dc_M_cut_48 ?_
      refine go_goto (tgt := 9) X dc_M_cut_51 (by decide) ?_
      first | (have hc : hm_farF τ (j + 1) = hm_farF τ j := (by (rw [hm_far_s]; repeat' split) <;> first | with_reducible rfl | (exfalso; clear ih; (simp only [iz_lt, iz_le, iz_eq, iz_0, iz_1, iz_2, iz_3, iz_4, iz_5, iz_6, iz_7, iz_8, iz_m, decide_eq_true_eq, Bool.not_eq_true, decide_not, Bool.not_eq_eq_eq_not, Bool.not_true, decide_eq_false_iff_not] at *) <;> omega)); have ih2 := ih hlt; rw [hc] at ih2; refine go_loc (L' := [(0, .ref (ad 0)), (1, .int (hm_farF τ j)), (2, .int (nI (j + 1 + 1)))]) rfl ?_; exact ih2) | (have hc : hm_farF τ (j + 1) = nI (j + 1) := (by (rw [hm_far_s]; repeat' split) <;> first | with_reducible rfl | (exfalso; clear ih; (simp only [iz_lt, iz_le, iz_eq, iz_0, iz_1, iz_2, iz_3, iz_4, iz_5, iz_6, iz_7, iz_8, iz_m, decide_eq_true_eq, Bool.not_eq_true, decide_not, Bool.not_eq_eq_eq_not, Bool.not_true, decide_eq_false_iff_not] at *) <;> omega)); have ih2 := ih hlt; rw [hc] at ih2; refine go_loc (L' := [(0, .ref (ad 0)), (1, .int (nI (j + 1))), (2, .int (nI (j + 1 + 1)))]) rfl ?_; exact ih2)
    · refine go_iload_n (i := 2) X rfl rfl dc_M_cut_42 ?_
      refine go_goto (tgt := 47) X dc_M_cut_43 (by decide) ?_
      refine go_istore_n (i := 1) X rfl (by decide) dc_M_cut_47 ?_
      refine go_iinc (i := 2) (v := nI (j + 1 + 1)) X rfl (by rw [lit1]; exact nI_1 (j + 1)) (by decide) dc_M_cut_48 ?_
      refine go_goto (tgt := 9) X dc_M_cut_51 (by decide) ?_
      first | (have hc : hm_farF τ (j + 1) = hm_farF τ j := (by (rw [hm_far_s]; repeat' split) <;> first | with_reducible rfl | (exfalso; clear ih; (simp only [iz_lt, iz_le, iz_eq, iz_0, iz_1, iz_2, iz_3, iz_4, iz_5, iz_6, iz_7, iz_8, iz_m, decide_eq_true_eq, Bool.not_eq_true, decide_not, Bool.not_eq_eq_eq_not, Bool.not_true, decide_eq_false_iff_not] at *) <;> omega)); have ih2 := ih hlt; rw [hc] at ih2; refine go_loc (L' := [(0, .ref (ad 0)), (1, .int (hm_farF τ j)), (2, .int (nI (j + 1 + 1)))]) rfl ?_; exact ih2) | (have hc : hm_farF τ (j + 1) = nI (j + 1) := (by (rw [hm_far_s]; repeat' split) <;> first | with_reducible rfl | (exfalso; clear ih; (simp only [iz_lt, iz_le, iz_eq, iz_0, iz_1, iz_2, iz_3, iz_4, iz_5, iz_6, iz_7, iz_8, iz_m, decide_eq_true_eq, Bool.not_eq_true, decide_not, Bool.not_eq_eq_eq_not, Bool.not_true, decide_eq_false_iff_not] at *) <;> omega)); have ih2 := ih hlt; rw [hc] at ih2; refine go_loc (L' := [(0, .ref (ad 0)), (1, .int (nI (j + 1))), (2, .int (nI (j + 1 + 1)))]) rfl ?_; exact ih2)
end M7
end
section
section CW_A
/-- a reference to a node: below 0 none -/
def rf_ (ad : Nat → Nat) (x : Int32) : Value := if x < 0 then .null else .ref (ad (ix_ x + 8))
theorem rf_ix {ad : Nat → Nat} {x : Int32} {k : Nat} (h : Ix_ x 32 k) : rf_ ad x = .ref (ad (k + 8)) := by
  have h1 := vp_in_iff.mp h.1
  unfold rf_
  rw [if_neg (by rw [iz_lt, iz_0]; omega), h.2]
theorem rf_neg {ad : Nat → Nat} {x : Int32} (h : x < 0) : rf_ ad x = .null := if_pos h
theorem rf_m (ad : Nat → Nat) : rf_ ad (-1) = .null := if_pos (by decide)
theorem rf_n {ad : Nat → Nat} {k : Nat} (h : k < 32) : rf_ ad (nI k) = .ref (ad (k + 8)) := rf_ix (Ix_n h (by decide))
def lc_ (K : Nat) : Nat := cond (Nat.beq K 3) 4 8
def hF_ (ad : Nat → Nat) : List Value := [.ref (ad 40), .ref (ad 7), .ref (ad 1), .ref (ad 3), .ref (ad 5)]
def pF_ (ad : Nat → Nat) (σ : ST_) (j : Nat) : List Value := [.ref (ad (2 * j + 2)), .int (σ 33 j)]
def nF_ (ad : Nat → Nat) (σ : ST_) (k : Nat) : List Value := [.int (σ 1 k), .int (σ 4 k), .int (σ 5 k), .int (σ 6 k), .int (σ 7 k), .int (σ 2 k), .int (σ 26 k), rf_ ad (σ 3 k)]
def cF_ (ad : Nat → Nat) (σ : ST_) (p : Nat) : List Value := [.int (nI p), .int (σ 10 p), .int (σ 15 p), .int (σ 16 p), .int (σ 17 p), .int (σ 11 p), rf_ ad (σ 8 p), rf_ ad (σ 9 p), rf_ ad (σ 12 p), rf_ ad (σ 13 p), rf_ ad (σ 14 p), .int (σ 18 p), .int (σ 19 p), .int (σ 20 p)]
def cE2_ (T : Nat → ClassId) (ad : Nat → Nat) (n : Nat) (σ : ST_) (k : Nat) : va_E :=
  if k < 32 then .inr (1, nF_ ad σ k) else if k = 32 then .inl (T 4, n, .inr (.inr (.inr (.inr (fun p => some (ad (p + 41))))))) else .inr (2, cF_ ad σ (k - 33))
def cE_ (T : Nat → ClassId) (ad : Nat → Nat) (K n : Nat) (σ : ST_) : Nat → va_E
  | 0 => .inr (0, hF_ ad)
  | 1 => .inr (K + 3, pF_ ad σ 0)
  | 2 => .inl (T 0, lc_ K, .inl (σ 30))
  | 3 => .inr (K + 3, pF_ ad σ 1)
  | 4 => .inl (T 0, lc_ K, .inl (σ 31))
  | 5 => .inr (K + 3, pF_ ad σ 2)
  | 6 => .inl (T 0, lc_ K, .inl (σ 32))
  | 7 => .inl (T 3, 32, .inr (.inr (.inr (.inr (fun k => some (ad (k + 8)))))))
  | k + 8 => cE2_ T ad n σ k
def cW_ (T : Nat → ClassId) (ad : Nat → Nat) (K n : Nat) (σ : ST_) : va_W := wl_ ad (41 + n) (cE_ T ad K n σ)
variable (T : Nat → ClassId) (ad : Nat → Nat) (K n : Nat) (σ : ST_)
theorem cE_node {k : Nat} (h : k < 32) : cE_ T ad K n σ (k + 8) = .inr (1, nF_ ad σ k) := if_pos h
theorem cE_cs : cE_ T ad K n σ 40 = .inl (T 4, n, .inr (.inr (.inr (.inr (fun p => some (ad (p + 41))))))) := rfl
theorem cE_call (p : Nat) : cE_ T ad K n σ (p + 41) = .inr (2, cF_ ad σ p) := by
  show cE2_ T ad n σ (p + 33) = _
  unfold cE2_
  rw [if_neg (by omega), if_neg (by omega), Nat.add_sub_cancel]
theorem cE_pl {j : Nat} (h : j < 3) : cE_ T ad K n σ (2 * j + 1) = .inr (K + 3, pF_ ad σ j) := by
  match j, h with
  | 0, _ => rfl
  | 1, _ => rfl
  | 2, _ => rfl
theorem cE_ce {j : Nat} (h : j < 3) : cE_ T ad K n σ (2 * j + 2) = .inl (T 0, lc_ K, .inl (σ (30 + j))) := by
  match j, h with
  | 0, _ => rfl
  | 1, _ => rfl
  | 2, _ => rfl
variable {T ad K n σ}
/-- the same world but for one place -/
theorem cE_up {σ' : ST_} {i0 : Nat} {x : va_E} (hx : x = cE_ T ad K n σ' i0) (hN : ∀ k, k < 32 → k + 8 ≠ i0 → nF_ ad σ k = nF_ ad σ' k) (hC : ∀ p, p + 41 ≠ i0 → cF_ ad σ p = cF_ ad σ' p) (hP : ∀ j, j < 3 → 2 * j + 1 ≠ i0 → σ 33 j = σ' 33 j) (hG : ∀ j, j < 3 → 2 * j + 2 ≠ i0 → σ (30 + j) = σ' (30 + j)) : ∀ i, va_up (cE_ T ad K n σ) i0 x i = cE_ T ad K n σ' i := by
  intro i
  by_cases e : i = i0
  · subst e; rw [va_up_self]; exact hx
  · rw [va_up_ne _ _ e]
    match i, e with
    | 0, _ => rfl
    | 1, e => show Sum.inr _ = Sum.inr _; unfold pF_; rw [hP 0 (by omega) (fun q => e (by omega))]
    | 2, e => show Sum.inl _ = Sum.inl _; rw [show σ 30 = σ' 30 from hG 0 (by omega) (fun q => e (by omega))]
    | 3, e => show Sum.inr _ = Sum.inr _; unfold pF_; rw [hP 1 (by omega) (fun q => e (by omega))]
    | 4, e => show Sum.inl _ = Sum.inl _; rw [show σ 31 = σ' 31 from hG 1 (by omega) (fun q => e (by omega))]
    | 5, e => show Sum.inr _ = Sum.inr _; unfold pF_; rw [hP 2 (by omega) (fun q => e (by omega))]
    | 6, e => show Sum.inl _ = Sum.inl _; rw [show σ 32 = σ' 32 from hG 2 (by omega) (fun q => e (by omega))]
    | 7, _ => rfl
    | k + 8, e =>
      show cE2_ T ad n σ k = cE2_ T ad n σ' k
      unfold cE2_
      by_cases h : k < 32
      · rw [if_pos h, if_pos h, hN k h e]
      · rw [if_neg h, if_neg h]
        by_cases h2 : k = 32
        · rw [if_pos h2, if_pos h2]
        · rw [if_neg h2, if_neg h2, hC (k - 33) (fun q => e (by omega))]
theorem nu_1 {k : Nat} (hk : k < 32) (x : Int32) : ∀ i, va_up (cE_ T ad K n σ) (k + 8) (.inr (1, (nF_ ad σ k).set 0 (.int x))) i = cE_ T ad K n (u2_ σ 1 k x) i := by
  refine cE_up ?_ (fun k' hk' hne => ?_) (fun p _ => rfl) (fun j _ _ => rfl) (fun j hj _ => (u2_ne σ k x (by omega)).symm)
  · rw [cE_node _ _ _ _ _ hk]
    have e : u2_ σ 1 k x 1 k = x := by rw [u2_at]; exact if_pos ⟨rfl, rfl⟩
    show Sum.inr (1, _) = Sum.inr (1, _)
    unfold nF_
    rw [e]
    rfl
  · have e : u2_ σ 1 k x 1 k' = σ 1 k' := by rw [u2_at]; exact if_neg (fun h => hne (by omega))
    show _ = nF_ ad (u2_ σ 1 k x) k'
    unfold nF_
    rw [e]
    rfl
theorem nu_4 {k : Nat} (hk : k < 32) (x : Int32) : ∀ i, va_up (cE_ T ad K n σ) (k + 8) (.inr (1, (nF_ ad σ k).set 1 (.int x))) i = cE_ T ad K n (u2_ σ 4 k x) i := by
  refine cE_up ?_ (fun k' hk' hne => ?_) (fun p _ => rfl) (fun j _ _ => rfl) (fun j hj _ => (u2_ne σ k x (by omega)).symm)
  · rw [cE_node _ _ _ _ _ hk]
    have e : u2_ σ 4 k x 4 k = x := by rw [u2_at]; exact if_pos ⟨rfl, rfl⟩
    show Sum.inr (1, _) = Sum.inr (1, _)
    unfold nF_
    rw [e]
    rfl
  · have e : u2_ σ 4 k x 4 k' = σ 4 k' := by rw [u2_at]; exact if_neg (fun h => hne (by omega))
    show _ = nF_ ad (u2_ σ 4 k x) k'
    unfold nF_
    rw [e]
    rfl
theorem nu_5 {k : Nat} (hk : k < 32) (x : Int32) : ∀ i, va_up (cE_ T ad K n σ) (k + 8) (.inr (1, (nF_ ad σ k).set 2 (.int x))) i = cE_ T ad K n (u2_ σ 5 k x) i := by
  refine cE_up ?_ (fun k' hk' hne => ?_) (fun p _ => rfl) (fun j _ _ => rfl) (fun j hj _ => (u2_ne σ k x (by omega)).symm)
  · rw [cE_node _ _ _ _ _ hk]
    have e : u2_ σ 5 k x 5 k = x := by rw [u2_at]; exact if_pos ⟨rfl, rfl⟩
    show Sum.inr (1, _) = Sum.inr (1, _)
    unfold nF_
    rw [e]
    rfl
  · have e : u2_ σ 5 k x 5 k' = σ 5 k' := by rw [u2_at]; exact if_neg (fun h => hne (by omega))
    show _ = nF_ ad (u2_ σ 5 k x) k'
    unfold nF_
    rw [e]
    rfl
theorem nu_6 {k : Nat} (hk : k < 32) (x : Int32) : ∀ i, va_up (cE_ T ad K n σ) (k + 8) (.inr (1, (nF_ ad σ k).set 3 (.int x))) i = cE_ T ad K n (u2_ σ 6 k x) i := by
  refine cE_up ?_ (fun k' hk' hne => ?_) (fun p _ => rfl) (fun j _ _ => rfl) (fun j hj _ => (u2_ne σ k x (by omega)).symm)
  · rw [cE_node _ _ _ _ _ hk]
    have e : u2_ σ 6 k x 6 k = x := by rw [u2_at]; exact if_pos ⟨rfl, rfl⟩
    show Sum.inr (1, _) = Sum.inr (1, _)
    unfold nF_
    rw [e]
    rfl
  · have e : u2_ σ 6 k x 6 k' = σ 6 k' := by rw [u2_at]; exact if_neg (fun h => hne (by omega))
    show _ = nF_ ad (u2_ σ 6 k x) k'
    unfold nF_
    rw [e]
    rfl
theorem nu_7 {k : Nat} (hk : k < 32) (x : Int32) : ∀ i, va_up (cE_ T ad K n σ) (k + 8) (.inr (1, (nF_ ad σ k).set 4 (.int x))) i = cE_ T ad K n (u2_ σ 7 k x) i := by
  refine cE_up ?_ (fun k' hk' hne => ?_) (fun p _ => rfl) (fun j _ _ => rfl) (fun j hj _ => (u2_ne σ k x (by omega)).symm)
  · rw [cE_node _ _ _ _ _ hk]
    have e : u2_ σ 7 k x 7 k = x := by rw [u2_at]; exact if_pos ⟨rfl, rfl⟩
    show Sum.inr (1, _) = Sum.inr (1, _)
    unfold nF_
    rw [e]
    rfl
  · have e : u2_ σ 7 k x 7 k' = σ 7 k' := by rw [u2_at]; exact if_neg (fun h => hne (by omega))
    show _ = nF_ ad (u2_ σ 7 k x) k'
    unfold nF_
    rw [e]
    rfl
theorem nu_2 {k : Nat} (hk : k < 32) (x : Int32) : ∀ i, va_up (cE_ T ad K n σ) (k + 8) (.inr (1, (nF_ ad σ k).set 5 (.int x))) i = cE_ T ad K n (u2_ σ 2 k x) i := by
  refine cE_up ?_ (fun k' hk' hne => ?_) (fun p _ => rfl) (fun j _ _ => rfl) (fun j hj _ => (u2_ne σ k x (by omega)).symm)
  · rw [cE_node _ _ _ _ _ hk]
    have e : u2_ σ 2 k x 2 k = x := by rw [u2_at]; exact if_pos ⟨rfl, rfl⟩
    show Sum.inr (1, _) = Sum.inr (1, _)
    unfold nF_
    rw [e]
    rfl
  · have e : u2_ σ 2 k x 2 k' = σ 2 k' := by rw [u2_at]; exact if_neg (fun h => hne (by omega))
    show _ = nF_ ad (u2_ σ 2 k x) k'
    unfold nF_
    rw [e]
    rfl
theorem nu_26 {k : Nat} (hk : k < 32) (x : Int32) : ∀ i, va_up (cE_ T ad K n σ) (k + 8) (.inr (1, (nF_ ad σ k).set 6 (.int x))) i = cE_ T ad K n (u2_ σ 26 k x) i := by
  refine cE_up ?_ (fun k' hk' hne => ?_) (fun p _ => rfl) (fun j _ _ => rfl) (fun j hj _ => (u2_ne σ k x (by omega)).symm)
  · rw [cE_node _ _ _ _ _ hk]
    have e : u2_ σ 26 k x 26 k = x := by rw [u2_at]; exact if_pos ⟨rfl, rfl⟩
    show Sum.inr (1, _) = Sum.inr (1, _)
    unfold nF_
    rw [e]
    rfl
  · have e : u2_ σ 26 k x 26 k' = σ 26 k' := by rw [u2_at]; exact if_neg (fun h => hne (by omega))
    show _ = nF_ ad (u2_ σ 26 k x) k'
    unfold nF_
    rw [e]
    rfl
theorem nu_3 {k : Nat} (hk : k < 32) (x : Int32) : ∀ i, va_up (cE_ T ad K n σ) (k + 8) (.inr (1, (nF_ ad σ k).set 7 (rf_ ad x))) i = cE_ T ad K n (u2_ σ 3 k x) i := by
  refine cE_up ?_ (fun k' hk' hne => ?_) (fun p _ => rfl) (fun j _ _ => rfl) (fun j hj _ => (u2_ne σ k x (by omega)).symm)
  · rw [cE_node _ _ _ _ _ hk]
    have e : u2_ σ 3 k x 3 k = x := by rw [u2_at]; exact if_pos ⟨rfl, rfl⟩
    show Sum.inr (1, _) = Sum.inr (1, _)
    unfold nF_
    rw [e]
    rfl
  · have e : u2_ σ 3 k x 3 k' = σ 3 k' := by rw [u2_at]; exact if_neg (fun h => hne (by omega))
    show _ = nF_ ad (u2_ σ 3 k x) k'
    unfold nF_
    rw [e]
    rfl
theorem cu_10 (p : Nat) (x : Int32) : ∀ i, va_up (cE_ T ad K n σ) (p + 41) (.inr (2, (cF_ ad σ p).set 1 (.int x))) i = cE_ T ad K n (u2_ σ 10 p x) i := by
  refine cE_up ?_ (fun k' hk' hne => rfl) (fun p' hne => ?_) (fun j _ _ => rfl) (fun j hj _ => (u2_ne σ p x (by omega)).symm)
  · rw [cE_call]
    have e : u2_ σ 10 p x 10 p = x := by rw [u2_at]; exact if_pos ⟨rfl, rfl⟩
    show Sum.inr (2, _) = Sum.inr (2, _)
    unfold cF_
    rw [e]
    rfl
  · have e : u2_ σ 10 p x 10 p' = σ 10 p' := by rw [u2_at]; exact if_neg (fun h => hne (by omega))
    show _ = cF_ ad (u2_ σ 10 p x) p'
    unfold cF_
    rw [e]
    rfl
theorem cu_15 (p : Nat) (x : Int32) : ∀ i, va_up (cE_ T ad K n σ) (p + 41) (.inr (2, (cF_ ad σ p).set 2 (.int x))) i = cE_ T ad K n (u2_ σ 15 p x) i := by
  refine cE_up ?_ (fun k' hk' hne => rfl) (fun p' hne => ?_) (fun j _ _ => rfl) (fun j hj _ => (u2_ne σ p x (by omega)).symm)
  · rw [cE_call]
    have e : u2_ σ 15 p x 15 p = x := by rw [u2_at]; exact if_pos ⟨rfl, rfl⟩
    show Sum.inr (2, _) = Sum.inr (2, _)
    unfold cF_
    rw [e]
    rfl
  · have e : u2_ σ 15 p x 15 p' = σ 15 p' := by rw [u2_at]; exact if_neg (fun h => hne (by omega))
    show _ = cF_ ad (u2_ σ 15 p x) p'
    unfold cF_
    rw [e]
    rfl
theorem cu_16 (p : Nat) (x : Int32) : ∀ i, va_up (cE_ T ad K n σ) (p + 41) (.inr (2, (cF_ ad σ p).set 3 (.int x))) i = cE_ T ad K n (u2_ σ 16 p x) i := by
  refine cE_up ?_ (fun k' hk' hne => rfl) (fun p' hne => ?_) (fun j _ _ => rfl) (fun j hj _ => (u2_ne σ p x (by omega)).symm)
  · rw [cE_call]
    have e : u2_ σ 16 p x 16 p = x := by rw [u2_at]; exact if_pos ⟨rfl, rfl⟩
    show Sum.inr (2, _) = Sum.inr (2, _)
    unfold cF_
    rw [e]
    rfl
  · have e : u2_ σ 16 p x 16 p' = σ 16 p' := by rw [u2_at]; exact if_neg (fun h => hne (by omega))
    show _ = cF_ ad (u2_ σ 16 p x) p'
    unfold cF_
    rw [e]
    rfl
theorem cu_17 (p : Nat) (x : Int32) : ∀ i, va_up (cE_ T ad K n σ) (p + 41) (.inr (2, (cF_ ad σ p).set 4 (.int x))) i = cE_ T ad K n (u2_ σ 17 p x) i := by
  refine cE_up ?_ (fun k' hk' hne => rfl) (fun p' hne => ?_) (fun j _ _ => rfl) (fun j hj _ => (u2_ne σ p x (by omega)).symm)
  · rw [cE_call]
    have e : u2_ σ 17 p x 17 p = x := by rw [u2_at]; exact if_pos ⟨rfl, rfl⟩
    show Sum.inr (2, _) = Sum.inr (2, _)
    unfold cF_
    rw [e]
    rfl
  · have e : u2_ σ 17 p x 17 p' = σ 17 p' := by rw [u2_at]; exact if_neg (fun h => hne (by omega))
    show _ = cF_ ad (u2_ σ 17 p x) p'
    unfold cF_
    rw [e]
    rfl
theorem cu_11 (p : Nat) (x : Int32) : ∀ i, va_up (cE_ T ad K n σ) (p + 41) (.inr (2, (cF_ ad σ p).set 5 (.int x))) i = cE_ T ad K n (u2_ σ 11 p x) i := by
  refine cE_up ?_ (fun k' hk' hne => rfl) (fun p' hne => ?_) (fun j _ _ => rfl) (fun j hj _ => (u2_ne σ p x (by omega)).symm)
  · rw [cE_call]
    have e : u2_ σ 11 p x 11 p = x := by rw [u2_at]; exact if_pos ⟨rfl, rfl⟩
    show Sum.inr (2, _) = Sum.inr (2, _)
    unfold cF_
    rw [e]
    rfl
  · have e : u2_ σ 11 p x 11 p' = σ 11 p' := by rw [u2_at]; exact if_neg (fun h => hne (by omega))
    show _ = cF_ ad (u2_ σ 11 p x) p'
    unfold cF_
    rw [e]
    rfl
theorem cu_8 (p : Nat) (x : Int32) : ∀ i, va_up (cE_ T ad K n σ) (p + 41) (.inr (2, (cF_ ad σ p).set 6 (rf_ ad x))) i = cE_ T ad K n (u2_ σ 8 p x) i := by
  refine cE_up ?_ (fun k' hk' hne => rfl) (fun p' hne => ?_) (fun j _ _ => rfl) (fun j hj _ => (u2_ne σ p x (by omega)).symm)
  · rw [cE_call]
    have e : u2_ σ 8 p x 8 p = x := by rw [u2_at]; exact if_pos ⟨rfl, rfl⟩
    show Sum.inr (2, _) = Sum.inr (2, _)
    unfold cF_
    rw [e]
    rfl
  · have e : u2_ σ 8 p x 8 p' = σ 8 p' := by rw [u2_at]; exact if_neg (fun h => hne (by omega))
    show _ = cF_ ad (u2_ σ 8 p x) p'
    unfold cF_
    rw [e]
    rfl
theorem cu_9 (p : Nat) (x : Int32) : ∀ i, va_up (cE_ T ad K n σ) (p + 41) (.inr (2, (cF_ ad σ p).set 7 (rf_ ad x))) i = cE_ T ad K n (u2_ σ 9 p x) i := by
  refine cE_up ?_ (fun k' hk' hne => rfl) (fun p' hne => ?_) (fun j _ _ => rfl) (fun j hj _ => (u2_ne σ p x (by omega)).symm)
  · rw [cE_call]
    have e : u2_ σ 9 p x 9 p = x := by rw [u2_at]; exact if_pos ⟨rfl, rfl⟩
    show Sum.inr (2, _) = Sum.inr (2, _)
    unfold cF_
    rw [e]
    rfl
  · have e : u2_ σ 9 p x 9 p' = σ 9 p' := by rw [u2_at]; exact if_neg (fun h => hne (by omega))
    show _ = cF_ ad (u2_ σ 9 p x) p'
    unfold cF_
    rw [e]
    rfl
theorem cu_12 (p : Nat) (x : Int32) : ∀ i, va_up (cE_ T ad K n σ) (p + 41) (.inr (2, (cF_ ad σ p).set 8 (rf_ ad x))) i = cE_ T ad K n (u2_ σ 12 p x) i := by
  refine cE_up ?_ (fun k' hk' hne => rfl) (fun p' hne => ?_) (fun j _ _ => rfl) (fun j hj _ => (u2_ne σ p x (by omega)).symm)
  · rw [cE_call]
    have e : u2_ σ 12 p x 12 p = x := by rw [u2_at]; exact if_pos ⟨rfl, rfl⟩
    show Sum.inr (2, _) = Sum.inr (2, _)
    unfold cF_
    rw [e]
    rfl
  · have e : u2_ σ 12 p x 12 p' = σ 12 p' := by rw [u2_at]; exact if_neg (fun h => hne (by omega))
    show _ = cF_ ad (u2_ σ 12 p x) p'
    unfold cF_
    rw [e]
    rfl
theorem cu_13 (p : Nat) (x : Int32) : ∀ i, va_up (cE_ T ad K n σ) (p + 41) (.inr (2, (cF_ ad σ p).set 9 (rf_ ad x))) i = cE_ T ad K n (u2_ σ 13 p x) i := by
  refine cE_up ?_ (fun k' hk' hne => rfl) (fun p' hne => ?_) (fun j _ _ => rfl) (fun j hj _ => (u2_ne σ p x (by omega)).symm)
  · rw [cE_call]
    have e : u2_ σ 13 p x 13 p = x := by rw [u2_at]; exact if_pos ⟨rfl, rfl⟩
    show Sum.inr (2, _) = Sum.inr (2, _)
    unfold cF_
    rw [e]
    rfl
  · have e : u2_ σ 13 p x 13 p' = σ 13 p' := by rw [u2_at]; exact if_neg (fun h => hne (by omega))
    show _ = cF_ ad (u2_ σ 13 p x) p'
    unfold cF_
    rw [e]
    rfl
theorem cu_14 (p : Nat) (x : Int32) : ∀ i, va_up (cE_ T ad K n σ) (p + 41) (.inr (2, (cF_ ad σ p).set 10 (rf_ ad x))) i = cE_ T ad K n (u2_ σ 14 p x) i := by
  refine cE_up ?_ (fun k' hk' hne => rfl) (fun p' hne => ?_) (fun j _ _ => rfl) (fun j hj _ => (u2_ne σ p x (by omega)).symm)
  · rw [cE_call]
    have e : u2_ σ 14 p x 14 p = x := by rw [u2_at]; exact if_pos ⟨rfl, rfl⟩
    show Sum.inr (2, _) = Sum.inr (2, _)
    unfold cF_
    rw [e]
    rfl
  · have e : u2_ σ 14 p x 14 p' = σ 14 p' := by rw [u2_at]; exact if_neg (fun h => hne (by omega))
    show _ = cF_ ad (u2_ σ 14 p x) p'
    unfold cF_
    rw [e]
    rfl
theorem cu_18 (p : Nat) (x : Int32) : ∀ i, va_up (cE_ T ad K n σ) (p + 41) (.inr (2, (cF_ ad σ p).set 11 (.int x))) i = cE_ T ad K n (u2_ σ 18 p x) i := by
  refine cE_up ?_ (fun k' hk' hne => rfl) (fun p' hne => ?_) (fun j _ _ => rfl) (fun j hj _ => (u2_ne σ p x (by omega)).symm)
  · rw [cE_call]
    have e : u2_ σ 18 p x 18 p = x := by rw [u2_at]; exact if_pos ⟨rfl, rfl⟩
    show Sum.inr (2, _) = Sum.inr (2, _)
    unfold cF_
    rw [e]
    rfl
  · have e : u2_ σ 18 p x 18 p' = σ 18 p' := by rw [u2_at]; exact if_neg (fun h => hne (by omega))
    show _ = cF_ ad (u2_ σ 18 p x) p'
    unfold cF_
    rw [e]
    rfl
theorem cu_19 (p : Nat) (x : Int32) : ∀ i, va_up (cE_ T ad K n σ) (p + 41) (.inr (2, (cF_ ad σ p).set 12 (.int x))) i = cE_ T ad K n (u2_ σ 19 p x) i := by
  refine cE_up ?_ (fun k' hk' hne => rfl) (fun p' hne => ?_) (fun j _ _ => rfl) (fun j hj _ => (u2_ne σ p x (by omega)).symm)
  · rw [cE_call]
    have e : u2_ σ 19 p x 19 p = x := by rw [u2_at]; exact if_pos ⟨rfl, rfl⟩
    show Sum.inr (2, _) = Sum.inr (2, _)
    unfold cF_
    rw [e]
    rfl
  · have e : u2_ σ 19 p x 19 p' = σ 19 p' := by rw [u2_at]; exact if_neg (fun h => hne (by omega))
    show _ = cF_ ad (u2_ σ 19 p x) p'
    unfold cF_
    rw [e]
    rfl
theorem cu_20 (p : Nat) (x : Int32) : ∀ i, va_up (cE_ T ad K n σ) (p + 41) (.inr (2, (cF_ ad σ p).set 13 (.int x))) i = cE_ T ad K n (u2_ σ 20 p x) i := by
  refine cE_up ?_ (fun k' hk' hne => rfl) (fun p' hne => ?_) (fun j _ _ => rfl) (fun j hj _ => (u2_ne σ p x (by omega)).symm)
  · rw [cE_call]
    have e : u2_ σ 20 p x 20 p = x := by rw [u2_at]; exact if_pos ⟨rfl, rfl⟩
    show Sum.inr (2, _) = Sum.inr (2, _)
    unfold cF_
    rw [e]
    rfl
  · have e : u2_ σ 20 p x 20 p' = σ 20 p' := by rw [u2_at]; exact if_neg (fun h => hne (by omega))
    show _ = cF_ ad (u2_ σ 20 p x) p'
    unfold cF_
    rw [e]
    rfl
theorem pu_33 {j : Nat} (hj : j < 3) (x : Int32) : ∀ i, va_up (cE_ T ad K n σ) (2 * j + 1) (.inr (K + 3, (pF_ ad σ j).set 1 (.int x))) i = cE_ T ad K n (u2_ σ 33 j x) i := by
  refine cE_up ?_ (fun k' hk' hne => rfl) (fun p' hne => rfl) (fun j' _ hne => ?_) (fun j' hj' _ => (u2_ne σ j x (by omega)).symm)
  · rw [cE_pl _ _ _ _ _ hj]
    have e : u2_ σ 33 j x 33 j = x := by rw [u2_at]; exact if_pos ⟨rfl, rfl⟩
    show Sum.inr (K + 3, _) = Sum.inr (K + 3, _)
    unfold pF_
    rw [e]
    rfl
  · rw [u2_at]; exact (if_neg (fun h => hne (by omega))).symm
theorem pu_ce {j : Nat} (hj : j < 3) (f : Nat → Int32) : ∀ i, va_up (cE_ T ad K n σ) (2 * j + 2) (.inl (T 0, lc_ K, .inl f)) i = cE_ T ad K n (u1_ σ (30 + j) f) i := by
  refine cE_up ?_ (fun k' hk' hne => ?_) (fun p' hne => ?_) (fun j' _ hne => ?_) (fun j' hj' hne => (u1_ne σ f (by omega)).symm)
  · rw [cE_ce _ _ _ _ _ hj, u1_same]
  · unfold nF_; simp only [u1_ne σ f (show 1 ≠ 30 + j by omega), u1_ne σ f (show 2 ≠ 30 + j by omega), u1_ne σ f (show 3 ≠ 30 + j by omega), u1_ne σ f (show 4 ≠ 30 + j by omega), u1_ne σ f (show 5 ≠ 30 + j by omega), u1_ne σ f (show 6 ≠ 30 + j by omega), u1_ne σ f (show 7 ≠ 30 + j by omega), u1_ne σ f (show 26 ≠ 30 + j by omega)]
  · unfold cF_; simp only [u1_ne σ f (show 10 ≠ 30 + j by omega), u1_ne σ f (show 15 ≠ 30 + j by omega), u1_ne σ f (show 16 ≠ 30 + j by omega), u1_ne σ f (show 17 ≠ 30 + j by omega), u1_ne σ f (show 11 ≠ 30 + j by omega), u1_ne σ f (show 8 ≠ 30 + j by omega), u1_ne σ f (show 9 ≠ 30 + j by omega), u1_ne σ f (show 12 ≠ 30 + j by omega), u1_ne σ f (show 13 ≠ 30 + j by omega), u1_ne σ f (show 14 ≠ 30 + j by omega), u1_ne σ f (show 18 ≠ 30 + j by omega), u1_ne σ f (show 19 ≠ 30 + j by omega), u1_ne σ f (show 20 ≠ 30 + j by omega)]
  · rw [u1_ne σ f (show 33 ≠ 30 + j by omega)]
theorem ft_H1 (k : Nat) : (ft_H k).1 = "HelpedLog" := by
  unfold ft_H
  split <;> rfl
theorem ft_N1 (k : Nat) : (ft_N k).1 = "HelpedLog$Node" := by
  unfold ft_N
  split <;> rfl
theorem ft_C1 (k : Nat) : (ft_C k).1 = "HelpedLog$Caller" := by
  unfold ft_C
  split <;> rfl
theorem ft_Q1 (k : Nat) : (ft_Q k).1 = "HelpedLog$Plain" := by
  unfold ft_Q
  split <;> rfl
theorem ft_S1 (k : Nat) : (ft_S k).1 = "HelpedLog$Plain" := by
  unfold ft_S
  split <;> rfl
theorem ft_T1 (k : Nat) : (ft_T k).1 = "HelpedLog$Plain" := by
  unfold ft_T
  split <;> rfl
theorem ft_B1 (k : Nat) : (ft_B k).1 = "HelpedLog$Plain" := by
  unfold ft_B
  split <;> rfl
end CW_A
section CW_B
variable {p : Program} {l : Launch} {e : Env} {R : Room} {s : State} {m : MethodId} {args : Array Value} {below : List Frame} {meth : Method} {c : Code} {D : va_G} {A : Nat → Prop} {nL cells slots : Nat} {Q : State → Prop}
variable {cc : ByteArray} {own : String} {T : Nat → ClassId} {pc : Nat} {L : List (Nat × Value)} {rest : List Value} {ad : Nat → Nat} {K n : Nat} {σ : ST_}
theorem gh_get (X : Cx_ p l e R s m args below meth c cc nL own D cl_ (tys_ T) TG_) {index : Nat} {v : Value}  (f : Nat) (hf : f < 5) (hl : Cond.fieldLink own index rn_H (ft_H f).2.1 (ft_H f).2.2.1 ∈ TG_) (hv : (hF_ ad)[f]? = some v) (d : decode cc pc = .ok (.getfield index, 3))
    (kk : Go_ p l e R s m args below meth c D cl_ A nL cells slots Q (cW_ T ad K n σ) (pc + 3) L (v :: rest)) : Go_ p l e R s m args below meth c D cl_ A nL cells slots Q (cW_ T ad K n σ) pc L (.ref (ad 0) :: rest) :=
  go_get (ci := 0) (k := f) X in_H rfl (show 0 < 41 + n by omega) (rfl) hf hl (fun x h => by rw [ft_H1] at h; exact h) hv d kk
theorem gn_get (X : Cx_ p l e R s m args below meth c cc nL own D cl_ (tys_ T) TG_) {index : Nat} {v : Value} {k : Nat} (hk : k < 32) (f : Nat) (hf : f < 8) (hl : Cond.fieldLink own index rn_N (ft_N f).2.1 (ft_N f).2.2.1 ∈ TG_) (hv : (nF_ ad σ k)[f]? = some v) (d : decode cc pc = .ok (.getfield index, 3))
    (kk : Go_ p l e R s m args below meth c D cl_ A nL cells slots Q (cW_ T ad K n σ) (pc + 3) L (v :: rest)) : Go_ p l e R s m args below meth c D cl_ A nL cells slots Q (cW_ T ad K n σ) pc L (.ref (ad (k + 8)) :: rest) :=
  go_get (ci := 1) (k := f) X in_N rfl (show k + 8 < 41 + n by omega) (cE_node T ad K n σ hk) hf hl (fun x h => by rw [ft_N1] at h; exact h) hv d kk
theorem gc_get (X : Cx_ p l e R s m args below meth c cc nL own D cl_ (tys_ T) TG_) {index : Nat} {v : Value} {q : Nat} (hq : q < n) (f : Nat) (hf : f < 14) (hl : Cond.fieldLink own index rn_C (ft_C f).2.1 (ft_C f).2.2.1 ∈ TG_) (hv : (cF_ ad σ q)[f]? = some v) (d : decode cc pc = .ok (.getfield index, 3))
    (kk : Go_ p l e R s m args below meth c D cl_ A nL cells slots Q (cW_ T ad K n σ) (pc + 3) L (v :: rest)) : Go_ p l e R s m args below meth c D cl_ A nL cells slots Q (cW_ T ad K n σ) pc L (.ref (ad (q + 41)) :: rest) :=
  go_get (ci := 2) (k := f) X in_C rfl (show q + 41 < 41 + n by omega) (cE_call T ad K n σ q) hf hl (fun x h => by rw [ft_C1] at h; exact h) hv d kk
theorem gn_getR (X : Cx_ p l e R s m args below meth c cc nL own D cl_ (tys_ T) TG_) {index : Nat} {x : Int32} {j k : Nat} (hk : k < 32) (f : Nat) (hf : f < 8) (hl : Cond.fieldLink own index rn_N (ft_N f).2.1 (ft_N f).2.2.1 ∈ TG_) (hv : (nF_ ad σ k)[f]? = some (rf_ ad x)) (hx : Ix_ x 32 j) (d : decode cc pc = .ok (.getfield index, 3))
    (kk : Go_ p l e R s m args below meth c D cl_ A nL cells slots Q (cW_ T ad K n σ) (pc + 3) L (.ref (ad (j + 8)) :: rest)) : Go_ p l e R s m args below meth c D cl_ A nL cells slots Q (cW_ T ad K n σ) pc L (.ref (ad (k + 8)) :: rest) := gn_get X hk f hf hl (by rw [hv, rf_ix hx]) d kk
theorem gc_getR (X : Cx_ p l e R s m args below meth c cc nL own D cl_ (tys_ T) TG_) {index : Nat} {x : Int32} {j q : Nat} (hq : q < n) (f : Nat) (hf : f < 14) (hl : Cond.fieldLink own index rn_C (ft_C f).2.1 (ft_C f).2.2.1 ∈ TG_) (hv : (cF_ ad σ q)[f]? = some (rf_ ad x)) (hx : Ix_ x 32 j) (d : decode cc pc = .ok (.getfield index, 3))
    (kk : Go_ p l e R s m args below meth c D cl_ A nL cells slots Q (cW_ T ad K n σ) (pc + 3) L (.ref (ad (j + 8)) :: rest)) : Go_ p l e R s m args below meth c D cl_ A nL cells slots Q (cW_ T ad K n σ) pc L (.ref (ad (q + 41)) :: rest) := gc_get X hq f hf hl (by rw [hv, rf_ix hx]) d kk
theorem gn_put (X : Cx_ p l e R s m args below meth c cc nL own D cl_ (tys_ T) TG_) {index k : Nat} {v : Value} {x : Int32} {ty : FieldType} (f a : Nat) (hk : k < 32) (hf : f < 8) (hl : Cond.fieldLink own index rn_N (ft_N f).2.1 (ft_N f).2.2.1 ∈ TG_) (hfin : (ft_N f).2.2.2 = false) (hd : parseFieldDescriptor (ft_N f).2.2.1 = some ty) (hn : narrow ty v = v) (hfit : fits ty v = true) (hF : ∀ i, va_up (cE_ T ad K n σ) (k + 8) (.inr (1, (nF_ ad σ k).set f v)) i = cE_ T ad K n (u2_ σ a k x) i) (d : decode cc pc = .ok (.putfield index, 3))
    (kk : Go_ p l e R s m args below meth c D cl_ A nL cells slots Q (cW_ T ad K n (u2_ σ a k x)) (pc + 3) L rest) : Go_ p l e R s m args below meth c D cl_ A nL cells slots Q (cW_ T ad K n σ) pc L (v :: .ref (ad (k + 8)) :: rest) := by
  refine go_put (ci := 1) (k := f) X in_N rfl ty_N tk_N nm_N (show k + 8 < 41 + n by omega) (cE_node T ad K n σ hk) hf hl (fun x h => by rw [ft_N1] at h; exact h) hfin hd hn hfit (show f < 8 from hf) d ?_
  rw [wl_congr (fun i _ => hF i)]
  exact kk
theorem gc_put (X : Cx_ p l e R s m args below meth c cc nL own D cl_ (tys_ T) TG_) {index q : Nat} {v : Value} {x : Int32} {ty : FieldType} (f a : Nat) (hq : q < n) (hf : f < 14) (hl : Cond.fieldLink own index rn_C (ft_C f).2.1 (ft_C f).2.2.1 ∈ TG_) (hfin : (ft_C f).2.2.2 = false) (hd : parseFieldDescriptor (ft_C f).2.2.1 = some ty) (hn : narrow ty v = v) (hfit : fits ty v = true) (hF : ∀ i, va_up (cE_ T ad K n σ) (q + 41) (.inr (2, (cF_ ad σ q).set f v)) i = cE_ T ad K n (u2_ σ a q x) i) (d : decode cc pc = .ok (.putfield index, 3))
    (kk : Go_ p l e R s m args below meth c D cl_ A nL cells slots Q (cW_ T ad K n (u2_ σ a q x)) (pc + 3) L rest) : Go_ p l e R s m args below meth c D cl_ A nL cells slots Q (cW_ T ad K n σ) pc L (v :: .ref (ad (q + 41)) :: rest) := by
  refine go_put (ci := 2) (k := f) X in_C rfl ty_C tk_C nm_C (show q + 41 < 41 + n by omega) (cE_call T ad K n σ q) hf hl (fun x h => by rw [ft_C1] at h; exact h) hfin hd hn hfit (show f < 14 from hf) d ?_
  rw [wl_congr (fun i _ => hF i)]
  exact kk
/-- a reference put: v names x -/
theorem gn_putR (X : Cx_ p l e R s m args below meth c cc nL own D cl_ (tys_ T) TG_) {index k : Nat} {v : Value} {x : Int32} {ty : FieldType} (f a : Nat) (hk : k < 32) (hf : f < 8) (hl : Cond.fieldLink own index rn_N (ft_N f).2.1 (ft_N f).2.2.1 ∈ TG_) (hfin : (ft_N f).2.2.2 = false) (hd : parseFieldDescriptor (ft_N f).2.2.1 = some ty) (hx : rf_ ad x = v) (hn : narrow ty v = v) (hfit : fits ty v = true) (hF : ∀ i, va_up (cE_ T ad K n σ) (k + 8) (.inr (1, (nF_ ad σ k).set f (rf_ ad x))) i = cE_ T ad K n (u2_ σ a k x) i) (d : decode cc pc = .ok (.putfield index, 3))
    (kk : Go_ p l e R s m args below meth c D cl_ A nL cells slots Q (cW_ T ad K n (u2_ σ a k x)) (pc + 3) L rest) : Go_ p l e R s m args below meth c D cl_ A nL cells slots Q (cW_ T ad K n σ) pc L (v :: .ref (ad (k + 8)) :: rest) := gn_put X f a hk hf hl hfin hd hn hfit (by rw [← hx]; exact hF) d kk
theorem gc_putR (X : Cx_ p l e R s m args below meth c cc nL own D cl_ (tys_ T) TG_) {index q : Nat} {v : Value} {x : Int32} {ty : FieldType} (f a : Nat) (hq : q < n) (hf : f < 14) (hl : Cond.fieldLink own index rn_C (ft_C f).2.1 (ft_C f).2.2.1 ∈ TG_) (hfin : (ft_C f).2.2.2 = false) (hd : parseFieldDescriptor (ft_C f).2.2.1 = some ty) (hx : rf_ ad x = v) (hn : narrow ty v = v) (hfit : fits ty v = true) (hF : ∀ i, va_up (cE_ T ad K n σ) (q + 41) (.inr (2, (cF_ ad σ q).set f (rf_ ad x))) i = cE_ T ad K n (u2_ σ a q x) i) (d : decode cc pc = .ok (.putfield index, 3))
    (kk : Go_ p l e R s m args below meth c D cl_ A nL cells slots Q (cW_ T ad K n (u2_ σ a q x)) (pc + 3) L rest) : Go_ p l e R s m args below meth c D cl_ A nL cells slots Q (cW_ T ad K n σ) pc L (v :: .ref (ad (q + 41)) :: rest) := gc_put X f a hq hf hl hfin hd hn hfit (by rw [← hx]; exact hF) d kk
/-- a plain object's fields, of any kind -/
theorem gp_get (X : Cx_ p l e R s m args below meth c cc nL own D cl_ (tys_ T) TG_) {index j : Nat} {ref : String} {v : Value} (hK : K < 4) (hj : j < 3) (f : Nat) (hf : f < 2) (hl : Cond.fieldLink own index ref (ft_Q f).2.1 (ft_Q f).2.2.1 ∈ TG_) (hs : ∀ x, s.fieldFound? rn_P (ft_Q f).2.1 (ft_Q f).2.2.1 = some x → s.fieldFound? ref (ft_Q f).2.1 (ft_Q f).2.2.1 = some x) (hv : (pF_ ad σ j)[f]? = some v) (d : decode cc pc = .ok (.getfield index, 3))
    (kk : Go_ p l e R s m args below meth c D cl_ A nL cells slots Q (cW_ T ad K n σ) (pc + 3) L (v :: rest)) : Go_ p l e R s m args below meth c D cl_ A nL cells slots Q (cW_ T ad K n σ) pc L (.ref (ad (2 * j + 1)) :: rest) := by
  match K, hK with
  | 0, _ => exact go_get (ci := 3) (k := f) X in_Q rfl (show 2 * j + 1 < 41 + n by omega) (cE_pl T ad 0 n σ hj) hf hl (fun x h => by rw [ft_Q1] at h; exact hs x h) hv d kk
  | 1, _ => exact go_get (ci := 4) (k := f) X in_S rfl (show 2 * j + 1 < 41 + n by omega) (cE_pl T ad 1 n σ hj) hf hl (fun x h => by rw [ft_S1] at h; exact hs x h) hv d kk
  | 2, _ => exact go_get (ci := 5) (k := f) X in_T rfl (show 2 * j + 1 < 41 + n by omega) (cE_pl T ad 2 n σ hj) hf hl (fun x h => by rw [ft_T1] at h; exact hs x h) hv d kk
  | 3, _ => exact go_get (ci := 6) (k := f) X in_B rfl (show 2 * j + 1 < 41 + n by omega) (cE_pl T ad 3 n σ hj) hf hl (fun x h => by rw [ft_B1] at h; exact hs x h) hv d kk
theorem gp_put (X : Cx_ p l e R s m args below meth c cc nL own D cl_ (tys_ T) TG_) {index j : Nat} {ref : String} {x : Int32} (hK : K < 4) (hj : j < 3) (hl : Cond.fieldLink own index ref "count" "I" ∈ TG_) (hs : ∀ x, s.fieldFound? rn_P "count" "I" = some x → s.fieldFound? ref "count" "I" = some x) (d : decode cc pc = .ok (.putfield index, 3))
    (kk : Go_ p l e R s m args below meth c D cl_ A nL cells slots Q (cW_ T ad K n (u2_ σ 33 j x)) (pc + 3) L rest) : Go_ p l e R s m args below meth c D cl_ A nL cells slots Q (cW_ T ad K n σ) pc L (.int x :: .ref (ad (2 * j + 1)) :: rest) := by
  have kk2 : Go_ p l e R s m args below meth c D cl_ A nL cells slots Q (wl_ ad (41 + n) (va_up (cE_ T ad K n σ) (2 * j + 1) (.inr (K + 3, (pF_ ad σ j).set 1 (.int x))))) (pc + 3) L rest := by rw [wl_congr (fun i _ => pu_33 hj x i)]; exact kk
  match K, hK with
  | 0, _ => exact go_put (ci := 3) (k := 1) X in_Q rfl ty_Q tk_Q nm_Q (show 2 * j + 1 < 41 + n by omega) (cE_pl T ad 0 n σ hj) (by decide) hl (fun x h => by rw [ft_Q1] at h; exact hs x h) rfl (tk_Q 1 (by decide)) rfl rfl (show 1 < 2 by decide) d kk2
  | 1, _ => exact go_put (ci := 4) (k := 1) X in_S rfl ty_S tk_S nm_S (show 2 * j + 1 < 41 + n by omega) (cE_pl T ad 1 n σ hj) (by decide) hl (fun x h => by rw [ft_S1] at h; exact hs x h) rfl (tk_S 1 (by decide)) rfl rfl (show 1 < 2 by decide) d kk2
  | 2, _ => exact go_put (ci := 5) (k := 1) X in_T rfl ty_T tk_T nm_T (show 2 * j + 1 < 41 + n by omega) (cE_pl T ad 2 n σ hj) (by decide) hl (fun x h => by rw [ft_T1] at h; exact hs x h) rfl (tk_T 1 (by decide)) rfl rfl (show 1 < 2 by decide) d kk2
  | 3, _ => exact go_put (ci := 6) (k := 1) X in_B rfl ty_B tk_B nm_B (show 2 * j + 1 < 41 + n by omega) (cE_pl T ad 3 n σ hj) (by decide) hl (fun x h => by rw [ft_B1] at h; exact hs x h) rfl (tk_B 1 (by decide)) rfl rfl (show 1 < 2 by decide) d kk2
/-- a plain object's cells -/
theorem gp_ld (X : Cx_ p l e R s m args below meth c cc nL own D cl_ (tys_ T) TG_) {i : Int32} {j k : Nat} {f : Nat → Int32} (hj : j < 3) (hf : σ (30 + j) = f) (hi : Ix_ i (lc_ K) k) (d : decode cc pc = .ok (.iaload, 1))
    (kk : Go_ p l e R s m args below meth c D cl_ A nL cells slots Q (cW_ T ad K n σ) (pc + 1) L (.int (f k) :: rest)) : Go_ p l e R s m args below meth c D cl_ A nL cells slots Q (cW_ T ad K n σ) pc L (.int i :: .ref (ad (2 * j + 2)) :: rest) := by
  subst hf
  exact go_iald (t0 := 0) X (show 2 * j + 2 < 41 + n by omega) (cE_ce T ad K n σ hj) rfl hi.1 hi.2 d kk
theorem gp_st (X : Cx_ p l e R s m args below meth c cc nL own D cl_ (tys_ T) TG_) {i x : Int32} {j k : Nat} (hj : j < 3) (hi : Ix_ i (lc_ K) k) (d : decode cc pc = .ok (.iastore, 1))
    (kk : Go_ p l e R s m args below meth c D cl_ A nL cells slots Q (cW_ T ad K n (u2_ σ (30 + j) k x)) (pc + 1) L rest) : Go_ p l e R s m args below meth c D cl_ A nL cells slots Q (cW_ T ad K n σ) pc L (.int x :: .int i :: .ref (ad (2 * j + 2)) :: rest) := by
  refine go_iast (t0 := 0) X (show 2 * j + 2 < 41 + n by omega) (cE_ce T ad K n σ hj) rfl hi.1 hi.2 d ?_
  rw [wl_congr (fun i _ => pu_ce hj (upd (σ (30 + j)) k x) i)]
  exact kk
theorem gp_len (X : Cx_ p l e R s m args below meth c cc nL own D cl_ (tys_ T) TG_) {j : Nat} (hj : j < 3) (d : decode cc pc = .ok (.arraylength, 1))
    (kk : Go_ p l e R s m args below meth c D cl_ A nL cells slots Q (cW_ T ad K n σ) (pc + 1) L (.int (nI (lc_ K)) :: rest)) : Go_ p l e R s m args below meth c D cl_ A nL cells slots Q (cW_ T ad K n σ) pc L (.ref (ad (2 * j + 2)) :: rest) :=
  go_alen (t0 := 0) X (show 2 * j + 2 < 41 + n by omega) (cE_ce T ad K n σ hj) rfl rfl d kk
/-- the rows of nodes and of callers -/
theorem gx_nd (X : Cx_ p l e R s m args below meth c cc nL own D cl_ (tys_ T) TG_) {i : Int32} {k : Nat} (hi : Ix_ i 32 k) (d : decode cc pc = .ok (.aaload, 1))
    (kk : Go_ p l e R s m args below meth c D cl_ A nL cells slots Q (cW_ T ad K n σ) (pc + 1) L (.ref (ad (k + 8)) :: rest)) : Go_ p l e R s m args below meth c D cl_ A nL cells slots Q (cW_ T ad K n σ) pc L (.int i :: .ref (ad 7) :: rest) :=
  go_aald (t0 := 3) X (show 7 < 41 + n by omega) rfl rfl hi.1 hi.2 rfl d kk
theorem gx_cl (X : Cx_ p l e R s m args below meth c cc nL own D cl_ (tys_ T) TG_) {i : Int32} {k : Nat} (hi : Ix_ i n k) (d : decode cc pc = .ok (.aaload, 1))
    (kk : Go_ p l e R s m args below meth c D cl_ A nL cells slots Q (cW_ T ad K n σ) (pc + 1) L (.ref (ad (k + 41)) :: rest)) : Go_ p l e R s m args below meth c D cl_ A nL cells slots Q (cW_ T ad K n σ) pc L (.int i :: .ref (ad 40) :: rest) :=
  go_aald (t0 := 4) X (show 40 < 41 + n by omega) (cE_cs T ad K n σ) rfl hi.1 hi.2 rfl d kk
theorem gx_ln (X : Cx_ p l e R s m args below meth c cc nL own D cl_ (tys_ T) TG_) (d : decode cc pc = .ok (.arraylength, 1))
    (kk : Go_ p l e R s m args below meth c D cl_ A nL cells slots Q (cW_ T ad K n σ) (pc + 1) L (.int (nI 32) :: rest)) : Go_ p l e R s m args below meth c D cl_ A nL cells slots Q (cW_ T ad K n σ) pc L (.ref (ad 7) :: rest) :=
  go_alen (t0 := 3) X (show 7 < 41 + n by omega) rfl rfl rfl d kk
theorem gx_lc (X : Cx_ p l e R s m args below meth c cc nL own D cl_ (tys_ T) TG_) (d : decode cc pc = .ok (.arraylength, 1))
    (kk : Go_ p l e R s m args below meth c D cl_ A nL cells slots Q (cW_ T ad K n σ) (pc + 1) L (.int (nI n) :: rest)) : Go_ p l e R s m args below meth c D cl_ A nL cells slots Q (cW_ T ad K n σ) pc L (.ref (ad 40) :: rest) :=
  go_alen (t0 := 4) X (show 40 < 41 + n by omega) (cE_cs T ad K n σ) rfl rfl d kk
/-- a contract of the class's: any receiver or none -/
def cc_ (l : Launch) (D : va_G) (T : Nat → ClassId) (ad : Nat → Nat) (K n : Nat) (A : Nat → Prop) (nw : List Cond) (y : MethodName) (h : Cond) (d : Nat) (av : List Value) (σ σ' : ST_) (r : Option Value) : Prop :=
  Ct_ l D cl_ (tys_ T) A nw y (h :: TG_) (rm_d d) av (cW_ T ad K n σ) (cW_ T ad K n σ') r
end CW_B
end
section
section CX_A
/-- words beside the good ones that the class needs -/
def nwc_ : List Cond := [.methodLinkNest "HelpedLog" 156 yn_Q_init "HelpedLog", .methodLinkNest "HelpedLog" 159 yn_S_init "HelpedLog", .methodLinkNest "HelpedLog" 38 yn_N_init "HelpedLog", .declares ⟨"HelpedLog$Plain", "perform", "(III)I"⟩, .declares ⟨"HelpedLog$Bag", "takeOut", "()I"⟩]
theorem tg_c {k : Cond} (h : k ∈ TG_) : GoodIn TG_ (k :: TG_) := tg_all (fun w hw => (List.mem_cons.mp hw).elim (fun e => by rw [e]; exact h) id)
theorem tg_wsU {own C owner : String} {index : Nat} {x y : MethodName} {k : Cond} (h1 : Cond.methodLink own index x ∈ TG_) (h2 : Cond.sameMethod x.cls owner x.name x.desc ∈ TG_) (h3 : Cond.selects C x y ∈ TG_) (h4 : Cond.instanceMethod y ∈ TG_) (h5 : Cond.initialized y.cls ∈ TG_) (h6 : k ∈ TG_) : GoodIn TG_ (va_wsU own index C owner x y (k :: TG_)) := tg_all (fun w hw => by
  unfold va_wsU at hw
  simp only [List.cons_append, List.nil_append, List.mem_cons] at hw
  rcases hw with rfl | rfl | rfl | rfl | rfl | rfl | hw
  · exact h1
  · exact h2
  · exact h3
  · exact h4
  · exact h5
  · exact h6
  · exact hw)
/-- a private method of a class above: it selects itself -/
theorem sel_priv {C : String} {x y z : MethodName} {s : State} {args : Array Value} (hy : y.cls ≠ "java/lang/invoke/MethodHandle" ∧ y.cls ≠ "java/lang/invoke/VarHandle") (hz : (Cond.selects C x z).before args s = true) (hzy : z.cls = y.cls) (hpriv : (Cond.privateMethod y).before args s = true) (hinst : (Cond.instanceMethod y).before args s = true) : (Cond.selects C y y).before args s = true := by
  obtain ⟨c, r, mz, hc, -, hnz, -, k, hk, hki⟩ := Cond.selects_spec hz
  obtain ⟨mk, methM, hnamed, hmethM, -, -⟩ := Cond.instanceMethod_spec hinst
  have hfound : s.methodFound? y.cls y.name y.desc = some mk := State.methodFound?_of_named hnamed hy
  have hcls : mz.cls = mk.cls := by
    have h1 := findClass_of_methodNamed hnamed
    have h2 := findClass_of_methodNamed hnz
    rw [hzy] at h2
    exact Option.some.inj (h2.symm.trans h1)
  rw [hcls] at hk
  have hsel : selectMethod {} s.vm c mk = .method mk := selectMethod_private hmethM (Cond.privateMethod_at hpriv mk methM hnamed hmethM)
  simp only [Cond.before, Cond.holds, Cond.value, hc, hfound, hnamed, hsel, hk]
  simp; exact hki
end CX_A
section CX_B
variable {p : Program} {l : Launch} {e : Env} {R : Room} {s : State} {m : MethodId} {args : Array Value} {below : List Frame} {meth : Method} {c : Code} {D : va_G} {cl : List vw_C} {A : Nat → Prop} {nL cells slots : Nat} {Q : State → Prop} {w w' : va_W}
variable {cc : ByteArray} {own : String} {tys : List (ClassId × FieldType)} {pc : Nat} {L : List (Nat × Value)} {rest : List Value} {nw : List Cond} {r : Option Value}
theorem go_null (X : Cx_ p l e R s m args below meth c cc nL own D cl tys TG_) (d : decode cc pc = .ok (.aconst_null, 1)) (k : Go_ p l e R s m args below meth c D cl A nL cells slots Q w (pc + 1) L (.null :: rest)) : Go_ p l e R s m args below meth c D cl A nL cells slots Q w pc L rest := fun H locs ls hP hD hS hl => lv_null X.1 X.2.1 d (k H locs ls hP hD hS hl)
theorem go_ixor (X : Cx_ p l e R s m args below meth c cc nL own D cl tys TG_) {x y : Int32} (d : decode cc pc = .ok (.ixor, 1)) (k : Go_ p l e R s m args below meth c D cl A nL cells slots Q w (pc + 1) L (.int (x ^^^ y) :: rest)) : Go_ p l e R s m args below meth c D cl A nL cells slots Q w pc L (.int y :: .int x :: rest) := fun H locs ls hP hD hS hl => lv_ixor X.1 X.2.1 d (k H locs ls hP hD hS hl)
theorem go_max (X : Cx_ p l e R s m args below meth c cc nL own D cl tys TG_) {index : Nat} {x y : Int32} (h1 : Cond.methodLink own index yn_J_max ∈ TG_) (hf : 1 ≤ R.frames) (hlo : (rest.map fun v => v.category).sum + 13 ≤ R.locals) (hcs : cells ≤ R.cells ∧ slots ≤ R.slots) (d : decode cc pc = .ok (.invokestatic index, 3)) (k : Go_ p l e R s m args below meth c D cl A nL cells slots Q w (pc + 3) L (.int (if x < y then y else x) :: rest)) : Go_ p l e R s m args below meth c D cl A nL cells slots Q w pc L (.int y :: .int x :: rest) := fun H locs ls hP hD hS hl => va_mmax X.1 X.2.1 (X.2.2.1.trans hl.1.1.symm) X.2.2.2.1 (X.2.2.2.2.1 _ h1) (X.2.2.2.2.1 _ sm_J_max) (X.2.2.2.2.1 _ ik_J) (X.2.2.2.2.1 _ co_J_max) hf hlo hcs.1 hcs.2 d (k H locs ls hP hD hS hl)
theorem go_min (X : Cx_ p l e R s m args below meth c cc nL own D cl tys TG_) {index : Nat} {x y : Int32} (h1 : Cond.methodLink own index yn_J_min ∈ TG_) (hf : 1 ≤ R.frames) (hlo : (rest.map fun v => v.category).sum + 13 ≤ R.locals) (hcs : cells ≤ R.cells ∧ slots ≤ R.slots) (d : decode cc pc = .ok (.invokestatic index, 3)) (k : Go_ p l e R s m args below meth c D cl A nL cells slots Q w (pc + 3) L (.int (if y < x then y else x) :: rest)) : Go_ p l e R s m args below meth c D cl A nL cells slots Q w pc L (.int y :: .int x :: rest) := fun H locs ls hP hD hS hl => va_mmin X.1 X.2.1 (X.2.2.1.trans hl.1.1.symm) X.2.2.2.1 (X.2.2.2.2.1 _ h1) (X.2.2.2.2.1 _ sm_J_min) (X.2.2.2.2.1 _ ik_J) (X.2.2.2.2.1 _ co_J_min) hf hlo hcs.1 hcs.2 d (k H locs ls hP hD hS hl)
theorem go_callW (X : Cx_ p l e R s m args below meth c cc nL own D cl tys TG_) (hN : NW_ nw s) {index maxL n : Nat} {y : MethodName} {bytes : ByteArray} {ret : Option FieldType} {rm : Room} {As st0 : List Value} {C : String} {Tf : u_T} {Nf ci i a : Nat} {fs : List Value} (hM : Ct_ l D cl tys A nw y (.code y bytes maxL ret :: TG_) rm (.ref a :: As) w w' r) (h1 : Cond.methodLink own index y ∈ TG_) (h2 : Cond.instanceMethod y ∈ TG_) (h3 : (Cond.selects C y y).before args s = true) (h4 : Cond.initialized y.cls ∈ TG_) (h5 : Cond.code y bytes maxL ret ∈ TG_) (hd : y.cls ≠ "java/lang/invoke/MethodHandle" ∧ y.cls ≠ "java/lang/invoke/VarHandle" ∧ (parseMethodDescriptor y.desc).map (fun d => d.parameters.length) = some n) (hR : rm.cells = 0 ∧ rm.slots = 0 ∧ rm.frames + 1 ≤ R.frames ∧ 8 + (maxL + 11) + rm.locals ≤ R.locals)
    (hc : cl[ci]? = some (C, Tf, Nf)) (hw : w[i]? = some (a, .inr (ci, fs))) (hst : st0 = As.reverse ++ .ref a :: rest) (hn : As.length = n) (hroom : (rest.map fun v => v.category).sum ≤ 8) (d : decode cc pc = .ok (.invokevirtual index, 3)) (hcs : cells ≤ R.cells ∧ slots ≤ R.slots)
    (k : Go_ p l e R s m args below meth c D cl A nL cells slots Q w' (pc + 3) L (r.toList ++ rest)) : Go_ p l e R s m args below meth c D cl A nL cells slots Q w pc L st0 := by
  refine go_run (r := r) (rest := rest) (a := (Value.ref a :: As).toArray) (fun H locs ls hP hD hl => ?_) k
  obtain ⟨hx, hb, hml, hown, hts, hK, -⟩ := X
  exact va_runV (As := As) (rest := rest) (C := C) ⟨hx, hb, hml, hown, hts⟩ hM ⟨callB_of n hts (tg_c h5) rfl hR.1 hR.2.1 (hts _ h4) (hts _ h1) hd hR.2.2, hts _ h2, h3⟩ ⟨Pd_blind, va_recv hK hP hc hw, fun U hU hW => ⟨rfl, by rw [hU]; exact hP, hD, va_K.moved hW.alike hK, NW_warm hW hN⟩⟩ rfl hn hl.1.1 hst (lv_room hroom) d hcs
theorem go_callT (X : Cx_ p l e R s m args below meth c cc nL own D cl tys TG_) (hN : NW_ nw s) {index maxL n : Nat} {y : MethodName} {bytes : ByteArray} {ret : Option FieldType} {rm : Room} {As st0 : List Value} (hM : Ct_ l D cl tys A nw y (.code y bytes maxL ret :: TG_) rm (As) w w' r) (h1 : Cond.methodLink own index y ∈ TG_) (h2 : Cond.static y ∈ TG_) (h4 : Cond.initialized y.cls ∈ TG_) (h5 : Cond.code y bytes maxL ret ∈ TG_) (hd : y.cls ≠ "java/lang/invoke/MethodHandle" ∧ y.cls ≠ "java/lang/invoke/VarHandle" ∧ (parseMethodDescriptor y.desc).map (fun d => d.parameters.length) = some n) (hR : rm.cells = 0 ∧ rm.slots = 0 ∧ rm.frames + 1 ≤ R.frames ∧ 8 + (maxL + 11) + rm.locals ≤ R.locals)
    (hst : st0 = As.reverse ++ rest) (hn : As.length = n) (hroom : (rest.map fun v => v.category).sum ≤ 8) (d : decode cc pc = .ok (.invokestatic index, 3)) (hcs : cells ≤ R.cells ∧ slots ≤ R.slots)
    (k : Go_ p l e R s m args below meth c D cl A nL cells slots Q w' (pc + 3) L (r.toList ++ rest)) : Go_ p l e R s m args below meth c D cl A nL cells slots Q w pc L st0 := by
  refine go_run (r := r) (rest := rest) (a := As.toArray) (fun H locs ls hP hD hl => ?_) k
  obtain ⟨hx, hb, hml, hown, hts, hK, -⟩ := X
  exact va_runS (As := As) (rest := rest) ⟨hx, hb, hml, hown, hts⟩ hM ⟨callB_of n hts (tg_c h5) rfl hR.1 hR.2.1 (hts _ h4) (hts _ h1) hd hR.2.2, hts _ h2⟩ ⟨Pd_blind, fun U hU hW => ⟨rfl, by rw [hU]; exact hP, hD, va_K.moved hW.alike hK, NW_warm hW hN⟩⟩ rfl hn hl.1.1 hst (lv_room hroom) d hcs
theorem go_callA (X : Cx_ p l e R s m args below meth c cc nL own D cl tys TG_) (hN : NW_ nw s) {index maxL n : Nat} {y : MethodName} {bytes : ByteArray} {ret : Option FieldType} {rm : Room} {As st0 : List Value} {C owner : String} {x : MethodName} {Tf : u_T} {Nf ci i a : Nat} {fs : List Value} (hM : Ct_ l D cl tys A nw y (.code y bytes maxL ret :: TG_) rm (.ref a :: As) w w' r) (h1 : Cond.methodLink own index x ∈ TG_) (h2 : Cond.sameMethod x.cls owner x.name x.desc ∈ TG_) (h3 : Cond.selects C x y ∈ TG_) (h4 : Cond.instanceMethod y ∈ TG_) (h5 : Cond.initialized y.cls ∈ TG_) (h6 : Cond.code y bytes maxL ret ∈ TG_) (hz : Cond.declares ⟨owner, x.name, x.desc⟩ ∈ nw) (hd : owner ≠ "java/lang/invoke/MethodHandle" ∧ owner ≠ "java/lang/invoke/VarHandle" ∧ (parseMethodDescriptor x.desc).map (fun d => d.parameters.length) = some n) (hR : rm.cells = 0 ∧ rm.slots = 0 ∧ rm.frames + 1 ≤ R.frames ∧ 8 + (maxL + 11) + rm.locals ≤ R.locals)
    (hc : cl[ci]? = some (C, Tf, Nf)) (hw : w[i]? = some (a, .inr (ci, fs))) (hst : st0 = As.reverse ++ .ref a :: rest) (hn : As.length = n) (hroom : (rest.map fun v => v.category).sum ≤ 8) (d : decode cc pc = .ok (.invokevirtual index, 3)) (hcs : cells ≤ R.cells ∧ slots ≤ R.slots)
    (k : Go_ p l e R s m args below meth c D cl A nL cells slots Q w' (pc + 3) L (r.toList ++ rest)) : Go_ p l e R s m args below meth c D cl A nL cells slots Q w pc L st0 := by
  refine go_run (r := r) (rest := rest) (a := (Value.ref a :: As).toArray) (fun H locs ls hP hD hl => ?_) k
  obtain ⟨hx, hb, hml, hown, hts, hK, -⟩ := X
  exact va_runU (As := As) (rest := rest) ⟨hx, hb, hml, hown, hts⟩ hM (va_cwA n hts (tg_wsU h1 h2 h3 h4 h5 h6) rfl hR.1 hR.2.1 (hN.2 _ hz) hd hR.2.2) ⟨Pd_blind, va_recv hK hP hc hw, fun U hU hW => ⟨rfl, by rw [hU]; exact hP, hD, va_K.moved hW.alike hK, NW_warm hW hN⟩⟩ rfl hn hl.1.1 hst (lv_room hroom) d hcs
end CX_B
end
section
section CL_A
theorem on_v1 {σ : ST_} {k : Nat} (h1 : ¬ σ 1 k = 0) (h2 : ¬ σ 2 k ≤ 0) : (1 : Int32) = cond (on_ σ k) 1 0 := by
  rw [on_iff.mpr ⟨h1, by rw [iz_lt, iz_0]; rw [iz_le, iz_0] at h2; omega⟩]; rfl
theorem on_v0 {σ : ST_} {k : Nat} (h : σ 1 k = 0 ∨ σ 2 k ≤ 0) : (0 : Int32) = cond (on_ σ k) 1 0 := by
  have h2 : on_ σ k = false := by
    cases hb : on_ σ k with
    | false => rfl
    | true =>
      obtain ⟨g1, g2⟩ := on_iff.mp hb
      rcases h with h | h
      · exact absurd h g1
      · rw [iz_lt, iz_0] at g2; rw [iz_le, iz_0] at h; omega
  rw [h2]; rfl
theorem cd_f {b : Bool} (h : cond b 1 0 = (0 : Int32)) : b = false := by
  cases b with
  | false => rfl
  | true => exact absurd h (by decide)
theorem cd_t {b : Bool} (h : ¬ cond b 1 0 = (0 : Int32)) : b = true := by
  cases b with
  | true => rfl
  | false => exact absurd rfl h

variable {T : Nat → ClassId} {ad : Nat → Nat} {K n : Nat} {σ : ST_}
theorem cw_h : (cW_ T ad K n σ)[0]? = some (ad 0, .inr (0, hF_ ad)) := wl_at (show 0 < 41 + n by omega)
theorem cw_n {k : Nat} (h : k < 32) : (cW_ T ad K n σ)[k + 8]? = some (ad (k + 8), .inr (1, nF_ ad σ k)) := by
  rw [cW_, wl_at (show k + 8 < 41 + n by omega), cE_node _ _ _ _ _ h]
theorem cw_p {j : Nat} (h : j < 3) : (cW_ T ad K n σ)[2 * j + 1]? = some (ad (2 * j + 1), .inr (K + 3, pF_ ad σ j)) := by
  rw [cW_, wl_at (show 2 * j + 1 < 41 + n by omega), cE_pl _ _ _ _ _ h]
/-- what a search finds, as a reference -/
def rv_ (ad : Nat → Nat) (o : Option Nat) : Value := match o with
  | none => .null
  | some k => .ref (ad (k + 8))
theorem ff_t {P : Nat → Bool} {j N : Nat} (hj : j < N) (h : P j = true) : ff_ P j (N - j) = some j := by
  obtain ⟨m, hm⟩ : ∃ m, N - j = m + 1 := ⟨N - j - 1, by omega⟩
  rw [hm]; unfold ff_; rw [h]; rfl
theorem ff_f {P : Nat → Bool} {j N : Nat} (hj : j < N) (h : P j = false) : ff_ P j (N - j) = ff_ P (j + 1) (N - (j + 1)) := by
  obtain ⟨m, hm⟩ : ∃ m, N - j = m + 1 := ⟨N - j - 1, by omega⟩
  rw [hm, show N - (j + 1) = m by omega]; conv => lhs; unfold ff_
  rw [h]; rfl
theorem ff_e (P : Nat → Bool) (N : Nat) : ff_ P N (N - N) = none := by rw [Nat.sub_self]; rfl
theorem en_t {j : Nat} (h : on_ σ j = true) : (if hc_endF σ j < σ 2 j then σ 2 j else hc_endF σ j) = hc_endF σ (j + 1) := by
  show _ = cond (on_ σ j) (if hc_endF σ j ≤ σ 2 j then σ 2 j else hc_endF σ j) (hc_endF σ j)
  rw [h]
  show _ = if hc_endF σ j ≤ σ 2 j then σ 2 j else hc_endF σ j
  simp only [iz_lt, iz_le, iz_eq]
  split <;> split <;> first | rfl | omega
theorem en_f {j : Nat} (h : on_ σ j = false) : hc_endF σ j = hc_endF σ (j + 1) := by
  show _ = cond (on_ σ j) _ (hc_endF σ j)
  rw [h]; rfl
theorem ol_t {j : Nat} (h : on_ σ j = true) : (if σ 2 j < hc_oldF σ j then σ 2 j else hc_oldF σ j) = hc_oldF σ (j + 1) := by
  show _ = cond (on_ σ j) (if hc_oldF σ j ≤ σ 2 j then hc_oldF σ j else σ 2 j) (hc_oldF σ j)
  rw [h]
  show _ = if hc_oldF σ j ≤ σ 2 j then hc_oldF σ j else σ 2 j
  simp only [iz_lt, iz_le, iz_eq]
  split <;> split <;> first | rfl | omega
theorem ol_f {j : Nat} (h : on_ σ j = false) : hc_oldF σ j = hc_oldF σ (j + 1) := by
  show _ = cond (on_ σ j) _ (hc_oldF σ j)
  rw [h]; rfl
theorem us_t {j : Nat} (h : ¬ σ 1 j = 0) : ct_ (fun k => decide (¬ σ 1 k = 0)) j + 1 = ct_ (fun k => decide (¬ σ 1 k = 0)) (j + 1) := by
  show _ = cond (decide (¬ σ 1 j = 0)) _ _
  rw [decide_eq_true h]; rfl
theorem us_f {j : Nat} (h : σ 1 j = 0) : ct_ (fun k => decide (¬ σ 1 k = 0)) j = ct_ (fun k => decide (¬ σ 1 k = 0)) (j + 1) := by
  show _ = cond (decide (¬ σ 1 j = 0)) _ _
  rw [decide_eq_false (fun q => q h)]; rfl
theorem far_ix (hh : ∀ q, q < n → Ix_ (σ 8 q) 32 (ix_ (σ 8 q))) (h0 : 0 < n) : ∀ j, j ≤ n → Ix_ (hc_farF σ j) 32 (ix_ (hc_farF σ j)) := by
  intro j
  induction j with
  | zero => intro _; exact hh 0 h0
  | succ j ih =>
    intro hj
    unfold hc_farF
    split
    · exact hh j (by omega)
    · exact ih (by omega)
theorem far_t {j : Nat} (h : ¬ σ 2 (ix_ (σ 8 j)) ≤ σ 2 (ix_ (hc_farF σ j))) : σ 8 j = hc_farF σ (j + 1) := by
  show _ = if σ 2 (ix_ (hc_farF σ j)) < σ 2 (ix_ (σ 8 j)) then σ 8 j else hc_farF σ j
  rw [if_pos (by rw [iz_lt]; rw [iz_le] at h; omega)]
theorem far_f {j : Nat} (h : σ 2 (ix_ (σ 8 j)) ≤ σ 2 (ix_ (hc_farF σ j))) : hc_farF σ j = hc_farF σ (j + 1) := by
  show _ = if σ 2 (ix_ (hc_farF σ j)) < σ 2 (ix_ (σ 8 j)) then σ 8 j else hc_farF σ j
  rw [if_neg (by rw [iz_lt]; rw [iz_le] at h; omega)]
theorem bg_t {j : Nat} {h : Int32} (e : hc_bring h j σ 10 j = -1) : u2_ (hc_bring h j σ) 8 j h = hc_bring h (j + 1) σ := (if_pos e).symm
theorem bg_f {j : Nat} {h : Int32} (e : ¬ hc_bring h j σ 10 j = -1) : hc_bring h j σ = hc_bring h (j + 1) σ := (if_neg e).symm
theorem le_s (j : Nat) : (if σ 2 (ix_ (σ 8 j)) < hc_leastF σ j then σ 2 (ix_ (σ 8 j)) else hc_leastF σ j) = hc_leastF σ (j + 1) := by
  show _ = if hc_leastF σ j ≤ σ 2 (ix_ (σ 8 j)) then hc_leastF σ j else σ 2 (ix_ (σ 8 j))
  simp only [iz_lt, iz_le, iz_eq]
  split <;> split <;> first | rfl | omega
theorem re_t {j : Nat} {x : Int32} (h : on_ (hc_relF x j σ).1 j = true) (h2 : ¬ x ≤ (hc_relF x j σ).1 2 j) : (u2_ (hc_relF x j σ).1 1 j 0, (hc_relF x j σ).2 + 1) = hc_relF x (j + 1) σ :=
  (if_pos ⟨h, by rw [iz_lt]; rw [iz_le] at h2; omega⟩).symm
theorem re_f {j : Nat} {x : Int32} (h : ¬ (on_ (hc_relF x j σ).1 j = true ∧ ¬ x ≤ (hc_relF x j σ).1 2 j)) : hc_relF x j σ = hc_relF x (j + 1) σ :=
  (if_neg (fun q => h ⟨q.1, by have := q.2; rw [iz_lt] at this; rw [iz_le]; omega⟩)).symm
end CL_A
end
section
section C1
set_option maxHeartbeats 4000000 in
set_option maxRecDepth 20000 in
theorem tc_isOnLog (l : Launch) (D : va_G) (T : Nat → ClassId) (ad : Nat → Nat) (A : Nat → Prop) (nw : List Cond) (K n : Nat) {σ : ST_} {k : Nat} (hk : k < 32) : cc_ l D T ad K n A nw yn_N_isOnLog (.code yn_N_isOnLog cd_N_isOnLog 1 (some .boolean)) 0 [.ref (ad (k + 8))] σ σ (some (.int (cond (on_ σ k) 1 0))) := by
  refine go_in (by decide) (Nat.le_of_ble_eq_true rfl) (List.forall_mem_cons.mpr ⟨rfl, fun _ h => nomatch h⟩) ?_
  intro P e s m args below meth c X hr hnm hN
  replace X : Cx_ P l e (rm_d 0) s m args below meth c cd_N_isOnLog 1 rn_N D cl_ (tys_ T) TG_ := X
  refine go_loc (L' := [(0, .ref (ad (k + 8)))]) rfl ?_
  refine go_aload_n (i := 0) X rfl rfl dc_N_isOnLog_0 ?_
  refine gn_get (v := .int (σ 1 (k))) X (by first | assumption | exact Ix_lt (by assumption)) 0 (by decide) fl_N_24 rfl dc_N_isOnLog_1 ?_
  refine go_if_eq (tgt := 18) X dc_N_isOnLog_4 (by decide) (fun h4 => ?_) (fun h4 => ?_)
  · refine go_iconst (v := 0) X (by decide) dc_N_isOnLog_18 ?_
    exact go_zret X hr (by decide) dc_N_isOnLog_19 rfl (congrArg some (congrArg Value.int (by first | exact on_v1 h4 h11 | exact on_v0 (Or.inl h4) | exact on_v0 (Or.inr h11))))
  · refine go_aload_n (i := 0) X rfl rfl dc_N_isOnLog_7 ?_
    refine gn_get (v := .int (σ 2 (k))) X (by first | assumption | exact Ix_lt (by assumption)) 5 (by decide) fl_N_28 rfl dc_N_isOnLog_8 ?_
    refine go_if_le (tgt := 18) X dc_N_isOnLog_11 (by decide) (fun h11 => ?_) (fun h11 => ?_)
    · refine go_iconst (v := 0) X (by decide) dc_N_isOnLog_18 ?_
      exact go_zret X hr (by decide) dc_N_isOnLog_19 rfl (congrArg some (congrArg Value.int (by first | exact on_v1 h4 h11 | exact on_v0 (Or.inl h4) | exact on_v0 (Or.inr h11))))
    · refine go_iconst (v := 1) X (by decide) dc_N_isOnLog_14 ?_
      refine go_goto (tgt := 19) X dc_N_isOnLog_15 (by decide) ?_
      exact go_zret X hr (by decide) dc_N_isOnLog_19 rfl (congrArg some (congrArg Value.int (by first | exact on_v1 h4 h11 | exact on_v0 (Or.inl h4) | exact on_v0 (Or.inr h11))))
set_option maxHeartbeats 4000000 in
set_option maxRecDepth 20000 in
theorem tc_take (l : Launch) (D : va_G) (T : Nat → ClassId) (ad : Nat → Nat) (A : Nat → Prop) (nw : List Cond) (K n : Nat) {σ : ST_} {k p : Nat} (hk : k < 32) (hp : p < n) : cc_ l D T ad K n A nw yn_N_take (.code yn_N_take cd_N_take 2 none) 0 [.ref (ad (k + 8)), .ref (ad (p + 41))] σ (hc_take σ k p) none := by
  refine go_in (by decide) (Nat.le_of_ble_eq_true rfl) (List.forall_mem_cons.mpr ⟨rfl, List.forall_mem_cons.mpr ⟨rfl, fun _ h => nomatch h⟩⟩) ?_
  intro P e s m args below meth c X hr hnm hN
  replace X : Cx_ P l e (rm_d 0) s m args below meth c cd_N_take 2 rn_N D cl_ (tys_ T) TG_ := X
  refine go_loc (L' := [(0, .ref (ad (k + 8))), (1, .ref (ad (p + 41)))]) rfl ?_
  refine go_aload_n (i := 0) X rfl rfl dc_N_take_0 ?_
  refine go_iconst (v := 1) X (by decide) dc_N_take_1 ?_
  refine gn_put X 0 1 (by first | assumption | exact Ix_lt (by assumption)) (by decide) fl_N_24 rfl (tk_N 0 (by decide)) rfl rfl (nu_1 (by first | assumption | exact Ix_lt (by assumption)) _) dc_N_take_2 ?_
  refine go_aload_n (i := 0) X rfl rfl dc_N_take_5 ?_
  refine go_aload_n (i := 1) X rfl rfl dc_N_take_6 ?_
  refine gc_get (v := .int (nI (p))) X (by first | assumption | exact Ix_lt (by assumption)) 0 (by decide) fl_N_31 rfl dc_N_take_7 ?_
  refine gn_put X 1 4 (by first | assumption | exact Ix_lt (by assumption)) (by decide) fl_N_9 rfl (tk_N 1 (by decide)) rfl rfl (nu_4 (by first | assumption | exact Ix_lt (by assumption)) _) dc_N_take_10 ?_
  refine go_aload_n (i := 0) X rfl rfl dc_N_take_13 ?_
  refine go_aload_n (i := 1) X rfl rfl dc_N_take_14 ?_
  refine gc_get (v := .int (σ 15 (p))) X (by first | assumption | exact Ix_lt (by assumption)) 2 (by decide) fl_N_34 rfl dc_N_take_15 ?_
  refine gn_put X 2 5 (by first | assumption | exact Ix_lt (by assumption)) (by decide) fl_N_15 rfl (tk_N 2 (by decide)) rfl rfl (nu_5 (by first | assumption | exact Ix_lt (by assumption)) _) dc_N_take_18 ?_
  refine go_aload_n (i := 0) X rfl rfl dc_N_take_21 ?_
  refine go_aload_n (i := 1) X rfl rfl dc_N_take_22 ?_
  refine gc_get (v := .int (σ 16 (p))) X (by first | assumption | exact Ix_lt (by assumption)) 3 (by decide) fl_N_35 rfl dc_N_take_23 ?_
  refine gn_put X 3 6 (by first | assumption | exact Ix_lt (by assumption)) (by decide) fl_N_18 rfl (tk_N 3 (by decide)) rfl rfl (nu_6 (by first | assumption | exact Ix_lt (by assumption)) _) dc_N_take_26 ?_
  refine go_aload_n (i := 0) X rfl rfl dc_N_take_29 ?_
  refine go_aload_n (i := 1) X rfl rfl dc_N_take_30 ?_
  refine gc_get (v := .int (σ 17 (p))) X (by first | assumption | exact Ix_lt (by assumption)) 4 (by decide) fl_N_36 rfl dc_N_take_31 ?_
  refine gn_put X 4 7 (by first | assumption | exact Ix_lt (by assumption)) (by decide) fl_N_21 rfl (tk_N 4 (by decide)) rfl rfl (nu_7 (by first | assumption | exact Ix_lt (by assumption)) _) dc_N_take_34 ?_
  refine go_aload_n (i := 0) X rfl rfl dc_N_take_37 ?_
  refine go_iconst (v := 0) X (by decide) dc_N_take_38 ?_
  refine gn_put X 5 2 (by first | assumption | exact Ix_lt (by assumption)) (by decide) fl_N_28 rfl (tk_N 5 (by decide)) rfl rfl (nu_2 (by first | assumption | exact Ix_lt (by assumption)) _) dc_N_take_39 ?_
  refine go_aload_n (i := 0) X rfl rfl dc_N_take_42 ?_
  refine go_null X dc_N_take_43 ?_
  refine gn_putR (x := -1) X 7 3 (by first | assumption | exact Ix_lt (by assumption)) (by decide) fl_N_37 rfl (tk_N 7 (by decide)) (rf_m _) rfl rfl (nu_3 (by first | assumption | exact Ix_lt (by assumption)) _) dc_N_take_44 ?_
  exact go_vret X hr dc_N_take_47 rfl rfl
set_option maxHeartbeats 4000000 in
set_option maxRecDepth 20000 in
theorem tc_part (l : Launch) (D : va_G) (T : Nat → ClassId) (ad : Nat → Nat) (A : Nat → Prop) (nw : List Cond) (K n : Nat) {σ : ST_} {k : Nat} {x : Int32} (hk : k < 32) (hx : 0 ≤ x.toInt ∧ x.toInt ≤ 3) : cc_ l D T ad K n A nw yn_N_part (.code yn_N_part cd_N_part 2 (some .int)) 0 [.ref (ad (k + 8)), .int x] σ σ (some (.int (hc_part σ k x))) := by
  refine go_in (by decide) (Nat.le_of_ble_eq_true rfl) (List.forall_mem_cons.mpr ⟨rfl, List.forall_mem_cons.mpr ⟨rfl, fun _ h => nomatch h⟩⟩) ?_
  intro P e s m args below meth c X hr hnm hN
  replace X : Cx_ P l e (rm_d 0) s m args below meth c cd_N_part 2 rn_N D cl_ (tys_ T) TG_ := X
  refine go_loc (L' := [(0, .ref (ad (k + 8))), (1, .int x)]) rfl ?_
  have hx4 : x = 0 ∨ x = 1 ∨ x = 2 ∨ x = 3 := by simp only [iz_eq, iz_0, iz_1, iz_2, iz_3]; omega
  rcases hx4 with rfl | rfl | rfl | rfl
  · refine go_iload_n (i := 1) X rfl rfl dc_N_part_0 ?_
    refine go_tableIn (off := 27) (tgt := 28) X dc_N_part_1 (by decide) (by decide) (by decide) (by decide) ?_
    refine go_aload_n (i := 0) X rfl rfl dc_N_part_28 ?_
    refine gn_get (v := .int (σ 4 (k))) X (by first | assumption | exact Ix_lt (by assumption)) 1 (by decide) fl_N_9 rfl dc_N_part_29 ?_
    exact go_iret X hr dc_N_part_32 rfl rfl
  · refine go_iload_n (i := 1) X rfl rfl dc_N_part_0 ?_
    refine go_tableIn (off := 32) (tgt := 33) X dc_N_part_1 (by decide) (by decide) (by decide) (by decide) ?_
    refine go_aload_n (i := 0) X rfl rfl dc_N_part_33 ?_
    refine gn_get (v := .int (σ 5 (k))) X (by first | assumption | exact Ix_lt (by assumption)) 2 (by decide) fl_N_15 rfl dc_N_part_34 ?_
    exact go_iret X hr dc_N_part_37 rfl rfl
  · refine go_iload_n (i := 1) X rfl rfl dc_N_part_0 ?_
    refine go_tableIn (off := 37) (tgt := 38) X dc_N_part_1 (by decide) (by decide) (by decide) (by decide) ?_
    refine go_aload_n (i := 0) X rfl rfl dc_N_part_38 ?_
    refine gn_get (v := .int (σ 6 (k))) X (by first | assumption | exact Ix_lt (by assumption)) 3 (by decide) fl_N_18 rfl dc_N_part_39 ?_
    exact go_iret X hr dc_N_part_42 rfl rfl
  · refine go_iload_n (i := 1) X rfl rfl dc_N_part_0 ?_
    refine go_tableOut (tgt := 43) X dc_N_part_1 (by decide) (by decide) ?_
    refine go_aload_n (i := 0) X rfl rfl dc_N_part_43 ?_
    refine gn_get (v := .int (σ 7 (k))) X (by first | assumption | exact Ix_lt (by assumption)) 4 (by decide) fl_N_21 rfl dc_N_part_44 ?_
    exact go_iret X hr dc_N_part_47 rfl rfl
set_option maxHeartbeats 4000000 in
set_option maxRecDepth 20000 in
theorem tc_findFree (l : Launch) (D : va_G) (T : Nat → ClassId) (ad : Nat → Nat) (A : Nat → Prop) (nw : List Cond) (K n : Nat) {σ : ST_}  : cc_ l D T ad K n A nw yn_H_findFree (.code yn_H_findFree cd_H_findFree 5 (some (.object "HelpedLog$Node"))) 0 [.ref (ad 0)] σ σ (some (rv_ ad (hc_free σ))) := by
  refine go_in (by decide) (Nat.le_of_ble_eq_true rfl) (List.forall_mem_cons.mpr ⟨rfl, fun _ h => nomatch h⟩) ?_
  intro P e s m args below meth c X hr hnm hN
  replace X : Cx_ P l e (rm_d 0) s m args below meth c cd_H_findFree 5 rn_H D cl_ (tys_ T) TG_ := X
  refine go_loc (L' := [(0, .ref (ad 0))]) rfl ?_
  refine go_aload_n (i := 0) X rfl rfl dc_H_findFree_0 ?_
  refine gh_get X 1 (by decide) fl_H_34 rfl dc_H_findFree_1 ?_
  refine go_astore_n (i := 1) X rfl (by decide) dc_H_findFree_4 ?_
  refine go_aload_n (i := 1) X rfl rfl dc_H_findFree_5 ?_
  refine gx_ln X dc_H_findFree_6 ?_
  refine go_istore_n (i := 2) X rfl (by decide) dc_H_findFree_7 ?_
  refine go_iconst (v := nI 0) X (by decide) dc_H_findFree_8 ?_
  refine go_istore_n (i := 3) X rfl (by decide) dc_H_findFree_9 ?_
  refine go_loc (L' := [(0, .ref (ad 0)), (1, .ref (ad 7)), (2, .int (nI 32)), (3, .int (nI 0))]) rfl ?_
  refine (lp_up (P := fun j => ff_ (fun k => decide (σ 1 k = 0)) j (32 - j) = hc_free σ → Go_ P l e (rm_d 0) s m args below meth c D cl_ A 5 0 0 _ (cW_ T ad K n (σ)) 10 [(0, .ref (ad 0)), (1, .ref (ad 7)), (2, .int (nI 32)), (3, .int (nI j))] []) 32 (fun j hj ih hinv => ?_)) 0 (Nat.zero_le _) rfl
  refine go_iload_n (i := 3) X rfl rfl dc_H_findFree_10 ?_
  refine go_iload_n (i := 2) X rfl rfl dc_H_findFree_11 ?_
  refine go_icmp_ge (tgt := 37) X dc_H_findFree_12 (by decide) (fun h12 => ?_) (fun h12 => ?_)
  · have e32 : j = 32 := by rw [iz_le, iz_nI (by omega), iz_nI (by omega)] at h12; omega
    subst e32
    refine go_null X dc_H_findFree_37 ?_
    exact go_aret X hr (Or.inl rfl) dc_H_findFree_38 rfl (congrArg some (by rw [← hinv, ff_e]; rfl))
  · have hlt : j < 32 := by rw [iz_le, iz_nI (by omega), iz_nI (by omega)] at h12; omega
    have hx : Ix_ (nI j) 32 j := Ix_n hlt (by omega)
    refine go_aload_n (i := 1) X rfl rfl dc_H_findFree_15 ?_
    refine go_iload_n (i := 3) X rfl rfl dc_H_findFree_16 ?_
    refine gx_nd (k := j) X (by assumption) dc_H_findFree_17 ?_
    refine go_astore (i := 4) X (by decide) dc_H_findFree_18 ?_
    refine go_aload (i := 4) X rfl dc_H_findFree_20 ?_
    refine gn_get (v := .int (σ 1 (j))) X (by first | assumption | exact Ix_lt (by assumption)) 0 (by decide) fl_H_39 rfl dc_H_findFree_22 ?_
    refine go_if_ne (tgt := 31) X dc_H_findFree_25 (by decide) (fun h25 => ?_) (fun h25 => ?_)
    · refine go_iinc (i := 3) (v := nI (j + 1)) X rfl (by rw [lit1]; exact nI_1 j) (by decide) dc_H_findFree_31 ?_
      refine go_goto (tgt := 10) X dc_H_findFree_34 (by decide) ?_
      refine go_loc (L' := [(0, .ref (ad 0)), (1, .ref (ad 7)), (2, .int (nI 32)), (3, .int (nI (j + 1)))]) rfl ?_
      exact ih hlt (by rw [← ff_f hlt (decide_eq_false (by assumption))]; exact hinv)
    · refine go_aload (i := 4) X rfl dc_H_findFree_28 ?_
      exact go_aret X hr (Or.inr ⟨_, rfl⟩) dc_H_findFree_30 rfl (congrArg some (by rw [← hinv, ff_t hlt (decide_eq_true (by assumption))]; rfl))
set_option maxHeartbeats 4000000 in
set_option maxRecDepth 20000 in
theorem tc_findOnLog (l : Launch) (D : va_G) (T : Nat → ClassId) (ad : Nat → Nat) (A : Nat → Prop) (nw : List Cond) (K n : Nat) {σ : ST_} {x : Int32}  : cc_ l D T ad K n A nw yn_H_findOnLog (.code yn_H_findOnLog cd_H_findOnLog 6 (some (.object "HelpedLog$Node"))) 1 [.ref (ad 0), .int x] σ σ (some (rv_ ad (hc_find σ x))) := by
  refine go_in (by decide) (Nat.le_of_ble_eq_true rfl) (List.forall_mem_cons.mpr ⟨rfl, List.forall_mem_cons.mpr ⟨rfl, fun _ h => nomatch h⟩⟩) ?_
  intro P e s m args below meth c X hr hnm hN
  replace X : Cx_ P l e (rm_d 1) s m args below meth c cd_H_findOnLog 6 rn_H D cl_ (tys_ T) TG_ := X
  refine go_loc (L' := [(0, .ref (ad 0)), (1, .int x)]) rfl ?_
  refine go_aload_n (i := 0) X rfl rfl dc_H_findOnLog_0 ?_
  refine gh_get X 1 (by decide) fl_H_34 rfl dc_H_findOnLog_1 ?_
  refine go_astore_n (i := 2) X rfl (by decide) dc_H_findOnLog_4 ?_
  refine go_aload_n (i := 2) X rfl rfl dc_H_findOnLog_5 ?_
  refine gx_ln X dc_H_findOnLog_6 ?_
  refine go_istore_n (i := 3) X rfl (by decide) dc_H_findOnLog_7 ?_
  refine go_iconst (v := nI 0) X (by decide) dc_H_findOnLog_8 ?_
  refine go_istore (i := 4) X (by decide) dc_H_findOnLog_9 ?_
  refine go_loc (L' := [(0, .ref (ad 0)), (1, .int x), (2, .ref (ad 7)), (3, .int (nI 32)), (4, .int (nI 0))]) rfl ?_
  refine (lp_up (P := fun j => ff_ (fun k => on_ σ k && decide (σ 2 k = x)) j (32 - j) = hc_find σ x → Go_ P l e (rm_d 1) s m args below meth c D cl_ A 6 0 0 _ (cW_ T ad K n (σ)) 11 [(0, .ref (ad 0)), (1, .int x), (2, .ref (ad 7)), (3, .int (nI 32)), (4, .int (nI j))] []) 32 (fun j hj ih hinv => ?_)) 0 (Nat.zero_le _) rfl
  refine go_iload (i := 4) X rfl dc_H_findOnLog_11 ?_
  refine go_iload_n (i := 3) X rfl rfl dc_H_findOnLog_13 ?_
  refine go_icmp_ge (tgt := 49) X dc_H_findOnLog_14 (by decide) (fun h14 => ?_) (fun h14 => ?_)
  · have e32 : j = 32 := by rw [iz_le, iz_nI (by omega), iz_nI (by omega)] at h14; omega
    subst e32
    refine go_null X dc_H_findOnLog_49 ?_
    exact go_aret X hr (Or.inl rfl) dc_H_findOnLog_50 rfl (congrArg some (by rw [← hinv, ff_e]; rfl))
  · have hlt : j < 32 := by rw [iz_le, iz_nI (by omega), iz_nI (by omega)] at h14; omega
    have hx : Ix_ (nI j) 32 j := Ix_n hlt (by omega)
    refine go_aload_n (i := 2) X rfl rfl dc_H_findOnLog_17 ?_
    refine go_iload (i := 4) X rfl dc_H_findOnLog_18 ?_
    refine gx_nd (k := j) X (by assumption) dc_H_findOnLog_20 ?_
    refine go_astore (i := 5) X (by decide) dc_H_findOnLog_21 ?_
    refine go_aload (i := 5) X rfl dc_H_findOnLog_23 ?_
    refine go_cV (C := rn_N) (ci := 1) (i := j + 8) (n := 0) (rest := []) X hN (tc_isOnLog l D T ad A nw K n (σ := σ) (k := j) hlt) ml_H_103 im_N_isOnLog sl_N_NisOnLog ik_N co_N_isOnLog ⟨rfl, by decide, by decide, by decide +kernel⟩ ⟨rfl, rfl, by decide, by decide⟩ rfl (cw_n hlt) rfl rfl (Nat.le_of_ble_eq_true rfl) dc_H_findOnLog_25 ⟨Nat.zero_le _, Nat.zero_le _⟩ ?_
    refine go_if_eq (tgt := 43) X dc_H_findOnLog_28 (by decide) (fun h28 => ?_) (fun h28 => ?_)
    · refine go_iinc (i := 4) (v := nI (j + 1)) X rfl (by rw [lit1]; exact nI_1 j) (by decide) dc_H_findOnLog_43 ?_
      refine go_goto (tgt := 11) X dc_H_findOnLog_46 (by decide) ?_
      refine go_loc (L' := [(0, .ref (ad 0)), (1, .int x), (2, .ref (ad 7)), (3, .int (nI 32)), (4, .int (nI (j + 1)))]) rfl ?_
      exact ih hlt (by rw [← ff_f hlt (by first | (rw [cd_f h28]; rfl) | (rw [decide_eq_false h37, Bool.and_false]))]; exact hinv)
    · refine go_aload (i := 5) X rfl dc_H_findOnLog_31 ?_
      refine gn_get (v := .int (σ 2 (j))) X (by first | assumption | exact Ix_lt (by assumption)) 5 (by decide) fl_H_43 rfl dc_H_findOnLog_33 ?_
      refine go_iload_n (i := 1) X rfl rfl dc_H_findOnLog_36 ?_
      refine go_icmp_ne (tgt := 43) X dc_H_findOnLog_37 (by decide) (fun h37 => ?_) (fun h37 => ?_)
      · refine go_iinc (i := 4) (v := nI (j + 1)) X rfl (by rw [lit1]; exact nI_1 j) (by decide) dc_H_findOnLog_43 ?_
        refine go_goto (tgt := 11) X dc_H_findOnLog_46 (by decide) ?_
        refine go_loc (L' := [(0, .ref (ad 0)), (1, .int x), (2, .ref (ad 7)), (3, .int (nI 32)), (4, .int (nI (j + 1)))]) rfl ?_
        exact ih hlt (by rw [← ff_f hlt (by first | (rw [cd_f h28]; rfl) | (rw [decide_eq_false h37, Bool.and_false]))]; exact hinv)
      · refine go_aload (i := 5) X rfl dc_H_findOnLog_40 ?_
        exact go_aret X hr (Or.inr ⟨_, rfl⟩) dc_H_findOnLog_42 rfl (congrArg some (by rw [← hinv, ff_t hlt (by rw [cd_t h28, decide_eq_true h37]; rfl)]; rfl))
set_option maxHeartbeats 4000000 in
set_option maxRecDepth 20000 in
theorem tc_end (l : Launch) (D : va_G) (T : Nat → ClassId) (ad : Nat → Nat) (A : Nat → Prop) (nw : List Cond) (K n : Nat) {σ : ST_}  : cc_ l D T ad K n A nw yn_H_end (.code yn_H_end cd_H_end 6 (some .int)) 1 [.ref (ad 0)] σ σ (some (.int (hc_endF σ 32))) := by
  refine go_in (by decide) (Nat.le_of_ble_eq_true rfl) (List.forall_mem_cons.mpr ⟨rfl, fun _ h => nomatch h⟩) ?_
  intro P e s m args below meth c X hr hnm hN
  replace X : Cx_ P l e (rm_d 1) s m args below meth c cd_H_end 6 rn_H D cl_ (tys_ T) TG_ := X
  refine go_loc (L' := [(0, .ref (ad 0))]) rfl ?_
  refine go_iconst (v := 1) X (by decide) dc_H_end_0 ?_
  refine go_istore_n (i := 1) X rfl (by decide) dc_H_end_1 ?_
  refine go_aload_n (i := 0) X rfl rfl dc_H_end_2 ?_
  refine gh_get X 1 (by decide) fl_H_34 rfl dc_H_end_3 ?_
  refine go_astore_n (i := 2) X rfl (by decide) dc_H_end_6 ?_
  refine go_aload_n (i := 2) X rfl rfl dc_H_end_7 ?_
  refine gx_ln X dc_H_end_8 ?_
  refine go_istore_n (i := 3) X rfl (by decide) dc_H_end_9 ?_
  refine go_iconst (v := nI 0) X (by decide) dc_H_end_10 ?_
  refine go_istore (i := 4) X (by decide) dc_H_end_11 ?_
  refine go_loc (L' := [(0, .ref (ad 0)), (1, .int (hc_endF σ 0)), (2, .ref (ad 7)), (3, .int (nI 32)), (4, .int (nI 0))]) rfl ?_
  refine (lp_up (P := fun j => Go_ P l e (rm_d 1) s m args below meth c D cl_ A 6 0 0 _ (cW_ T ad K n (σ)) 13 [(0, .ref (ad 0)), (1, .int (hc_endF σ j)), (2, .ref (ad 7)), (3, .int (nI 32)), (4, .int (nI j))] []) 32 (fun j hj ih => ?_)) 0 (Nat.zero_le _) 
  refine go_iload (i := 4) X rfl dc_H_end_13 ?_
  refine go_iload_n (i := 3) X rfl rfl dc_H_end_15 ?_
  refine go_icmp_ge (tgt := 49) X dc_H_end_16 (by decide) (fun h16 => ?_) (fun h16 => ?_)
  · have e32 : j = 32 := by rw [iz_le, iz_nI (by omega), iz_nI (by omega)] at h16; omega
    subst e32
    refine go_iload_n (i := 1) X rfl rfl dc_H_end_49 ?_
    exact go_iret X hr dc_H_end_50 rfl rfl
  · have hlt : j < 32 := by rw [iz_le, iz_nI (by omega), iz_nI (by omega)] at h16; omega
    have hx : Ix_ (nI j) 32 j := Ix_n hlt (by omega)
    refine go_aload_n (i := 2) X rfl rfl dc_H_end_19 ?_
    refine go_iload (i := 4) X rfl dc_H_end_20 ?_
    refine gx_nd (k := j) X (by assumption) dc_H_end_22 ?_
    refine go_astore (i := 5) X (by decide) dc_H_end_23 ?_
    refine go_aload (i := 5) X rfl dc_H_end_25 ?_
    refine go_cV (C := rn_N) (ci := 1) (i := j + 8) (n := 0) (rest := []) X hN (tc_isOnLog l D T ad A nw K n (σ := σ) (k := j) hlt) ml_H_103 im_N_isOnLog sl_N_NisOnLog ik_N co_N_isOnLog ⟨rfl, by decide, by decide, by decide +kernel⟩ ⟨rfl, rfl, by decide, by decide⟩ rfl (cw_n hlt) rfl rfl (Nat.le_of_ble_eq_true rfl) dc_H_end_27 ⟨Nat.zero_le _, Nat.zero_le _⟩ ?_
    refine go_if_eq (tgt := 43) X dc_H_end_30 (by decide) (fun h30 => ?_) (fun h30 => ?_)
    · refine go_iinc (i := 4) (v := nI (j + 1)) X rfl (by rw [lit1]; exact nI_1 j) (by decide) dc_H_end_43 ?_
      refine go_goto (tgt := 13) X dc_H_end_46 (by decide) ?_
      have ih2 := ih hlt
      rw [← en_f (cd_f h30)] at ih2
      refine go_loc (L' := [(0, .ref (ad 0)), (1, .int (hc_endF σ j)), (2, .ref (ad 7)), (3, .int (nI 32)), (4, .int (nI (j + 1)))]) rfl ?_
      exact ih2
    · refine go_iload_n (i := 1) X rfl rfl dc_H_end_33 ?_
      refine go_aload (i := 5) X rfl dc_H_end_34 ?_
      refine gn_get (v := .int (σ 2 (j))) X (by first | assumption | exact Ix_lt (by assumption)) 5 (by decide) fl_H_43 rfl dc_H_end_36 ?_
      refine go_max X ml_H_15 (by decide) (Nat.le_of_ble_eq_true rfl) ⟨Nat.zero_le _, Nat.zero_le _⟩ dc_H_end_39 ?_
      refine go_istore_n (i := 1) X rfl (by decide) dc_H_end_42 ?_
      refine go_iinc (i := 4) (v := nI (j + 1)) X rfl (by rw [lit1]; exact nI_1 j) (by decide) dc_H_end_43 ?_
      refine go_goto (tgt := 13) X dc_H_end_46 (by decide) ?_
      have ih2 := ih hlt
      rw [← en_t (cd_t h30)] at ih2
      refine go_loc (L' := [(0, .ref (ad 0)), (1, .int (if hc_endF σ j < σ 2 j then σ 2 j else hc_endF σ j)), (2, .ref (ad 7)), (3, .int (nI 32)), (4, .int (nI (j + 1)))]) rfl ?_
      exact ih2
set_option maxHeartbeats 4000000 in
set_option maxRecDepth 20000 in
theorem tc_oldest (l : Launch) (D : va_G) (T : Nat → ClassId) (ad : Nat → Nat) (A : Nat → Prop) (nw : List Cond) (K n : Nat) {σ : ST_}  : cc_ l D T ad K n A nw yn_H_oldest (.code yn_H_oldest cd_H_oldest 6 (some .int)) 2 [.ref (ad 0)] σ σ (some (.int (hc_oldF σ 32))) := by
  refine go_in (by decide) (Nat.le_of_ble_eq_true rfl) (List.forall_mem_cons.mpr ⟨rfl, fun _ h => nomatch h⟩) ?_
  intro P e s m args below meth c X hr hnm hN
  replace X : Cx_ P l e (rm_d 2) s m args below meth c cd_H_oldest 6 rn_H D cl_ (tys_ T) TG_ := X
  refine go_loc (L' := [(0, .ref (ad 0))]) rfl ?_
  refine go_aload_n (i := 0) X rfl rfl dc_H_oldest_0 ?_
  refine go_cV (C := rn_H) (ci := 0) (i := 0) (n := 0) (rest := []) X hN (tc_end l D T ad A nw K n (σ := σ)) ml_H_107 im_H_end sl_H_Hend ik_H co_H_end ⟨rfl, by decide, by decide, by decide +kernel⟩ ⟨rfl, rfl, by decide, by decide⟩ rfl (cw_h) rfl rfl (Nat.le_of_ble_eq_true rfl) dc_H_oldest_1 ⟨Nat.zero_le _, Nat.zero_le _⟩ ?_
  refine go_istore_n (i := 1) X rfl (by decide) dc_H_oldest_4 ?_
  refine go_aload_n (i := 0) X rfl rfl dc_H_oldest_5 ?_
  refine gh_get X 1 (by decide) fl_H_34 rfl dc_H_oldest_6 ?_
  refine go_astore_n (i := 2) X rfl (by decide) dc_H_oldest_9 ?_
  refine go_aload_n (i := 2) X rfl rfl dc_H_oldest_10 ?_
  refine gx_ln X dc_H_oldest_11 ?_
  refine go_istore_n (i := 3) X rfl (by decide) dc_H_oldest_12 ?_
  refine go_iconst (v := nI 0) X (by decide) dc_H_oldest_13 ?_
  refine go_istore (i := 4) X (by decide) dc_H_oldest_14 ?_
  refine go_loc (L' := [(0, .ref (ad 0)), (1, .int (hc_oldF σ 0)), (2, .ref (ad 7)), (3, .int (nI 32)), (4, .int (nI 0))]) rfl ?_
  refine (lp_up (P := fun j => Go_ P l e (rm_d 2) s m args below meth c D cl_ A 6 0 0 _ (cW_ T ad K n (σ)) 16 [(0, .ref (ad 0)), (1, .int (hc_oldF σ j)), (2, .ref (ad 7)), (3, .int (nI 32)), (4, .int (nI j))] []) 32 (fun j hj ih => ?_)) 0 (Nat.zero_le _) 
  refine go_iload (i := 4) X rfl dc_H_oldest_16 ?_
  refine go_iload_n (i := 3) X rfl rfl dc_H_oldest_18 ?_
  refine go_icmp_ge (tgt := 52) X dc_H_oldest_19 (by decide) (fun h19 => ?_) (fun h19 => ?_)
  · have e32 : j = 32 := by rw [iz_le, iz_nI (by omega), iz_nI (by omega)] at h19; omega
    subst e32
    refine go_iload_n (i := 1) X rfl rfl dc_H_oldest_52 ?_
    exact go_iret X hr dc_H_oldest_53 rfl rfl
  · have hlt : j < 32 := by rw [iz_le, iz_nI (by omega), iz_nI (by omega)] at h19; omega
    have hx : Ix_ (nI j) 32 j := Ix_n hlt (by omega)
    refine go_aload_n (i := 2) X rfl rfl dc_H_oldest_22 ?_
    refine go_iload (i := 4) X rfl dc_H_oldest_23 ?_
    refine gx_nd (k := j) X (by assumption) dc_H_oldest_25 ?_
    refine go_astore (i := 5) X (by decide) dc_H_oldest_26 ?_
    refine go_aload (i := 5) X rfl dc_H_oldest_28 ?_
    refine go_cV (C := rn_N) (ci := 1) (i := j + 8) (n := 0) (rest := []) X hN (tc_isOnLog l D T ad A nw K n (σ := σ) (k := j) hlt) ml_H_103 im_N_isOnLog sl_N_NisOnLog ik_N co_N_isOnLog ⟨rfl, by decide, by decide, by decide +kernel⟩ ⟨rfl, rfl, by decide, by decide⟩ rfl (cw_n hlt) rfl rfl (Nat.le_of_ble_eq_true rfl) dc_H_oldest_30 ⟨Nat.zero_le _, Nat.zero_le _⟩ ?_
    refine go_if_eq (tgt := 46) X dc_H_oldest_33 (by decide) (fun h33 => ?_) (fun h33 => ?_)
    · refine go_iinc (i := 4) (v := nI (j + 1)) X rfl (by rw [lit1]; exact nI_1 j) (by decide) dc_H_oldest_46 ?_
      refine go_goto (tgt := 16) X dc_H_oldest_49 (by decide) ?_
      have ih2 := ih hlt
      rw [← ol_f (cd_f h33)] at ih2
      refine go_loc (L' := [(0, .ref (ad 0)), (1, .int (hc_oldF σ j)), (2, .ref (ad 7)), (3, .int (nI 32)), (4, .int (nI (j + 1)))]) rfl ?_
      exact ih2
    · refine go_iload_n (i := 1) X rfl rfl dc_H_oldest_36 ?_
      refine go_aload (i := 5) X rfl dc_H_oldest_37 ?_
      refine gn_get (v := .int (σ 2 (j))) X (by first | assumption | exact Ix_lt (by assumption)) 5 (by decide) fl_H_43 rfl dc_H_oldest_39 ?_
      refine go_min X ml_H_9 (by decide) (Nat.le_of_ble_eq_true rfl) ⟨Nat.zero_le _, Nat.zero_le _⟩ dc_H_oldest_42 ?_
      refine go_istore_n (i := 1) X rfl (by decide) dc_H_oldest_45 ?_
      refine go_iinc (i := 4) (v := nI (j + 1)) X rfl (by rw [lit1]; exact nI_1 j) (by decide) dc_H_oldest_46 ?_
      refine go_goto (tgt := 16) X dc_H_oldest_49 (by decide) ?_
      have ih2 := ih hlt
      rw [← ol_t (cd_t h33)] at ih2
      refine go_loc (L' := [(0, .ref (ad 0)), (1, .int (if σ 2 j < hc_oldF σ j then σ 2 j else hc_oldF σ j)), (2, .ref (ad 7)), (3, .int (nI 32)), (4, .int (nI (j + 1)))]) rfl ?_
      exact ih2
set_option maxHeartbeats 4000000 in
set_option maxRecDepth 20000 in
theorem tc_used (l : Launch) (D : va_G) (T : Nat → ClassId) (ad : Nat → Nat) (A : Nat → Prop) (nw : List Cond) (K n : Nat) {σ : ST_}  : cc_ l D T ad K n A nw yn_H_used (.code yn_H_used cd_H_used 6 (some .int)) 0 [.ref (ad 0)] σ σ (some (.int (ct_ (fun k => decide (¬ σ 1 k = 0)) 32))) := by
  refine go_in (by decide) (Nat.le_of_ble_eq_true rfl) (List.forall_mem_cons.mpr ⟨rfl, fun _ h => nomatch h⟩) ?_
  intro P e s m args below meth c X hr hnm hN
  replace X : Cx_ P l e (rm_d 0) s m args below meth c cd_H_used 6 rn_H D cl_ (tys_ T) TG_ := X
  refine go_loc (L' := [(0, .ref (ad 0))]) rfl ?_
  refine go_iconst (v := 0) X (by decide) dc_H_used_0 ?_
  refine go_istore_n (i := 1) X rfl (by decide) dc_H_used_1 ?_
  refine go_aload_n (i := 0) X rfl rfl dc_H_used_2 ?_
  refine gh_get X 1 (by decide) fl_H_34 rfl dc_H_used_3 ?_
  refine go_astore_n (i := 2) X rfl (by decide) dc_H_used_6 ?_
  refine go_aload_n (i := 2) X rfl rfl dc_H_used_7 ?_
  refine gx_ln X dc_H_used_8 ?_
  refine go_istore_n (i := 3) X rfl (by decide) dc_H_used_9 ?_
  refine go_iconst (v := nI 0) X (by decide) dc_H_used_10 ?_
  refine go_istore (i := 4) X (by decide) dc_H_used_11 ?_
  refine go_loc (L' := [(0, .ref (ad 0)), (1, .int (ct_ (fun k => decide (¬ σ 1 k = 0)) 0)), (2, .ref (ad 7)), (3, .int (nI 32)), (4, .int (nI 0))]) rfl ?_
  refine (lp_up (P := fun j => Go_ P l e (rm_d 0) s m args below meth c D cl_ A 6 0 0 _ (cW_ T ad K n (σ)) 13 [(0, .ref (ad 0)), (1, .int (ct_ (fun k => decide (¬ σ 1 k = 0)) j)), (2, .ref (ad 7)), (3, .int (nI 32)), (4, .int (nI j))] []) 32 (fun j hj ih => ?_)) 0 (Nat.zero_le _) 
  refine go_iload (i := 4) X rfl dc_H_used_13 ?_
  refine go_iload_n (i := 3) X rfl rfl dc_H_used_15 ?_
  refine go_icmp_ge (tgt := 42) X dc_H_used_16 (by decide) (fun h16 => ?_) (fun h16 => ?_)
  · have e32 : j = 32 := by rw [iz_le, iz_nI (by omega), iz_nI (by omega)] at h16; omega
    subst e32
    refine go_iload_n (i := 1) X rfl rfl dc_H_used_42 ?_
    exact go_iret X hr dc_H_used_43 rfl rfl
  · have hlt : j < 32 := by rw [iz_le, iz_nI (by omega), iz_nI (by omega)] at h16; omega
    have hx : Ix_ (nI j) 32 j := Ix_n hlt (by omega)
    refine go_aload_n (i := 2) X rfl rfl dc_H_used_19 ?_
    refine go_iload (i := 4) X rfl dc_H_used_20 ?_
    refine gx_nd (k := j) X (by assumption) dc_H_used_22 ?_
    refine go_astore (i := 5) X (by decide) dc_H_used_23 ?_
    refine go_aload (i := 5) X rfl dc_H_used_25 ?_
    refine gn_get (v := .int (σ 1 (j))) X (by first | assumption | exact Ix_lt (by assumption)) 0 (by decide) fl_H_39 rfl dc_H_used_27 ?_
    refine go_if_eq (tgt := 36) X dc_H_used_30 (by decide) (fun h30 => ?_) (fun h30 => ?_)
    · refine go_iinc (i := 4) (v := nI (j + 1)) X rfl (by rw [lit1]; exact nI_1 j) (by decide) dc_H_used_36 ?_
      refine go_goto (tgt := 13) X dc_H_used_39 (by decide) ?_
      have ih2 := ih hlt
      rw [← us_f h30] at ih2
      refine go_loc (L' := [(0, .ref (ad 0)), (1, .int (ct_ (fun k => decide (¬ σ 1 k = 0)) j)), (2, .ref (ad 7)), (3, .int (nI 32)), (4, .int (nI (j + 1)))]) rfl ?_
      exact ih2
    · refine go_iinc (i := 1) (v := ct_ (fun k => decide (¬ σ 1 k = 0)) j + 1) X rfl (by rw [lit1]) (by decide) dc_H_used_33 ?_
      refine go_iinc (i := 4) (v := nI (j + 1)) X rfl (by rw [lit1]; exact nI_1 j) (by decide) dc_H_used_36 ?_
      refine go_goto (tgt := 13) X dc_H_used_39 (by decide) ?_
      have ih2 := ih hlt
      rw [← us_t h30] at ih2
      refine go_loc (L' := [(0, .ref (ad 0)), (1, .int (ct_ (fun k => decide (¬ σ 1 k = 0)) j + 1)), (2, .ref (ad 7)), (3, .int (nI 32)), (4, .int (nI (j + 1)))]) rfl ?_
      exact ih2
end C1
end
section
section C2
theorem bring_ix {n : Nat} {σ : ST_} (hh : ∀ q, q < n → Ix_ (σ 8 q) 32 (ix_ (σ 8 q))) (h0 : 0 < n) : ∀ q, q < n → Ix_ (hc_bring (hc_farF σ n) n σ 8 q) 32 (ix_ (hc_bring (hc_farF σ n) n σ 8 q)) := by
  intro q hq
  rw [hc_br, u1_same]
  unfold br_
  split
  · exact far_ix hh h0 n (Nat.le_refl _)
  · exact hh q hq
set_option maxHeartbeats 4000000 in
set_option maxRecDepth 20000 in
theorem tc_greatestHead (l : Launch) (D : va_G) (T : Nat → ClassId) (ad : Nat → Nat) (A : Nat → Prop) (nw : List Cond) (K n : Nat) {σ : ST_} (hn : n ≤ 5) (h0 : 0 < n) (hh : ∀ q, q < n → Ix_ (σ 8 q) 32 (ix_ (σ 8 q)))  : cc_ l D T ad K n A nw yn_H_greatestHead (.code yn_H_greatestHead cd_H_greatestHead 6 (some (.object "HelpedLog$Node"))) 0 [.ref (ad 0)] σ σ (some (.ref (ad (ix_ (hc_farF σ n) + 8)))) := by
  refine go_in (by decide) (Nat.le_of_ble_eq_true rfl) (List.forall_mem_cons.mpr ⟨rfl, fun _ h => nomatch h⟩) ?_
  intro P e s m args below meth c X hr hnm hN
  replace X : Cx_ P l e (rm_d 0) s m args below meth c cd_H_greatestHead 6 rn_H D cl_ (tys_ T) TG_ := X
  refine go_loc (L' := [(0, .ref (ad 0))]) rfl ?_
  have hx0 : Ix_ 0 n 0 := Ix_n (j := 0) h0 (by omega)
  have hb0 := hh 0 h0
  refine go_aload_n (i := 0) X rfl rfl dc_H_greatestHead_0 ?_
  refine gh_get X 0 (by decide) fl_H_49 rfl dc_H_greatestHead_1 ?_
  refine go_iconst (v := 0) X (by decide) dc_H_greatestHead_4 ?_
  refine gx_cl (k := 0) X (by assumption) dc_H_greatestHead_5 ?_
  refine gc_getR (x := σ 8 (0)) (j := ix_ (σ 8 (0))) X (by first | assumption | exact Ix_lt (by assumption)) 6 (by decide) fl_H_126 rfl (by assumption) dc_H_greatestHead_6 ?_
  refine go_astore_n (i := 1) X rfl (by decide) dc_H_greatestHead_9 ?_
  refine go_aload_n (i := 0) X rfl rfl dc_H_greatestHead_10 ?_
  refine gh_get X 0 (by decide) fl_H_49 rfl dc_H_greatestHead_11 ?_
  refine go_astore_n (i := 2) X rfl (by decide) dc_H_greatestHead_14 ?_
  refine go_aload_n (i := 2) X rfl rfl dc_H_greatestHead_15 ?_
  refine gx_lc X dc_H_greatestHead_16 ?_
  refine go_istore_n (i := 3) X rfl (by decide) dc_H_greatestHead_17 ?_
  refine go_iconst (v := nI 0) X (by decide) dc_H_greatestHead_18 ?_
  refine go_istore (i := 4) X (by decide) dc_H_greatestHead_19 ?_
  refine go_loc (L' := [(0, .ref (ad 0)), (1, .ref (ad (ix_ (hc_farF σ 0) + 8))), (2, .ref (ad 40)), (3, .int (nI n)), (4, .int (nI 0))]) rfl ?_
  refine (lp_up (P := fun j => Go_ P l e (rm_d 0) s m args below meth c D cl_ A 6 0 0 _ (cW_ T ad K n (σ)) 21 [(0, .ref (ad 0)), (1, .ref (ad (ix_ (hc_farF σ j) + 8))), (2, .ref (ad 40)), (3, .int (nI n)), (4, .int (nI j))] []) n (fun j hj ih => ?_)) 0 (Nat.zero_le _) 
  refine go_iload (i := 4) X rfl dc_H_greatestHead_21 ?_
  refine go_iload_n (i := 3) X rfl rfl dc_H_greatestHead_23 ?_
  refine go_icmp_ge (tgt := 60) X dc_H_greatestHead_24 (by decide) (fun h24 => ?_) (fun h24 => ?_)
  · have e32 : j = n := by rw [iz_le, iz_nI (by omega), iz_nI (by omega)] at h24; omega
    subst e32
    refine go_aload_n (i := 1) X rfl rfl dc_H_greatestHead_60 ?_
    exact go_aret X hr (Or.inr ⟨_, rfl⟩) dc_H_greatestHead_61 rfl rfl
  · have hlt : j < n := by rw [iz_le, iz_nI (by omega), iz_nI (by omega)] at h24; omega
    have hx : Ix_ (nI j) n j := Ix_n hlt (by omega)
    have hbj := hh j hlt
    have hfj := far_ix hh h0 j (by omega)
    refine go_aload_n (i := 2) X rfl rfl dc_H_greatestHead_27 ?_
    refine go_iload (i := 4) X rfl dc_H_greatestHead_28 ?_
    refine gx_cl (k := j) X (by assumption) dc_H_greatestHead_30 ?_
    refine go_astore (i := 5) X (by decide) dc_H_greatestHead_31 ?_
    refine go_aload (i := 5) X rfl dc_H_greatestHead_33 ?_
    refine gc_getR (x := σ 8 (j)) (j := ix_ (σ 8 (j))) X (by first | assumption | exact Ix_lt (by assumption)) 6 (by decide) fl_H_126 rfl (by assumption) dc_H_greatestHead_35 ?_
    refine gn_get (v := .int (σ 2 (ix_ (σ 8 (j))))) X (by first | assumption | exact Ix_lt (by assumption)) 5 (by decide) fl_H_43 rfl dc_H_greatestHead_38 ?_
    refine go_aload_n (i := 1) X rfl rfl dc_H_greatestHead_41 ?_
    refine gn_get (v := .int (σ 2 (ix_ (hc_farF σ j)))) X (by first | assumption | exact Ix_lt (by assumption)) 5 (by decide) fl_H_43 rfl dc_H_greatestHead_42 ?_
    refine go_icmp_le (tgt := 54) X dc_H_greatestHead_45 (by decide) (fun h45 => ?_) (fun h45 => ?_)
    · refine go_iinc (i := 4) (v := nI (j + 1)) X rfl (by rw [lit1]; exact nI_1 j) (by decide) dc_H_greatestHead_54 ?_
      refine go_goto (tgt := 21) X dc_H_greatestHead_57 (by decide) ?_
      have ih2 := ih hlt
      rw [← far_f h45] at ih2
      refine go_loc (L' := [(0, .ref (ad 0)), (1, .ref (ad (ix_ (hc_farF σ j) + 8))), (2, .ref (ad 40)), (3, .int (nI n)), (4, .int (nI (j + 1)))]) rfl ?_
      exact ih2
    · refine go_aload (i := 5) X rfl dc_H_greatestHead_48 ?_
      refine gc_getR (x := σ 8 (j)) (j := ix_ (σ 8 (j))) X (by first | assumption | exact Ix_lt (by assumption)) 6 (by decide) fl_H_126 rfl (by assumption) dc_H_greatestHead_50 ?_
      refine go_astore_n (i := 1) X rfl (by decide) dc_H_greatestHead_53 ?_
      refine go_iinc (i := 4) (v := nI (j + 1)) X rfl (by rw [lit1]; exact nI_1 j) (by decide) dc_H_greatestHead_54 ?_
      refine go_goto (tgt := 21) X dc_H_greatestHead_57 (by decide) ?_
      have ih2 := ih hlt
      rw [← far_t h45] at ih2
      refine go_loc (L' := [(0, .ref (ad 0)), (1, .ref (ad (ix_ (σ 8 j) + 8))), (2, .ref (ad 40)), (3, .int (nI n)), (4, .int (nI (j + 1)))]) rfl ?_
      exact ih2
set_option maxHeartbeats 4000000 in
set_option maxRecDepth 20000 in
theorem tc_bringIdleHeadsTo (l : Launch) (D : va_G) (T : Nat → ClassId) (ad : Nat → Nat) (A : Nat → Prop) (nw : List Cond) (K n : Nat) {σ : ST_} {g : Int32} (hn : n ≤ 5) (hg : Ix_ g 32 (ix_ g)) : cc_ l D T ad K n A nw yn_H_bringIdleHeadsTo (.code yn_H_bringIdleHeadsTo cd_H_bringIdleHeadsTo 6 none) 0 [.ref (ad 0), .ref (ad (ix_ g + 8))] σ (hc_bring g n σ) none := by
  refine go_in (by decide) (Nat.le_of_ble_eq_true rfl) (List.forall_mem_cons.mpr ⟨rfl, List.forall_mem_cons.mpr ⟨rfl, fun _ h => nomatch h⟩⟩) ?_
  intro P e s m args below meth c X hr hnm hN
  replace X : Cx_ P l e (rm_d 0) s m args below meth c cd_H_bringIdleHeadsTo 6 rn_H D cl_ (tys_ T) TG_ := X
  refine go_loc (L' := [(0, .ref (ad 0)), (1, .ref (ad (ix_ g + 8)))]) rfl ?_
  refine go_aload_n (i := 0) X rfl rfl dc_H_bringIdleHeadsTo_0 ?_
  refine gh_get X 0 (by decide) fl_H_49 rfl dc_H_bringIdleHeadsTo_1 ?_
  refine go_astore_n (i := 2) X rfl (by decide) dc_H_bringIdleHeadsTo_4 ?_
  refine go_aload_n (i := 2) X rfl rfl dc_H_bringIdleHeadsTo_5 ?_
  refine gx_lc X dc_H_bringIdleHeadsTo_6 ?_
  refine go_istore_n (i := 3) X rfl (by decide) dc_H_bringIdleHeadsTo_7 ?_
  refine go_iconst (v := nI 0) X (by decide) dc_H_bringIdleHeadsTo_8 ?_
  refine go_istore (i := 4) X (by decide) dc_H_bringIdleHeadsTo_9 ?_
  refine go_loc (L' := [(0, .ref (ad 0)), (1, .ref (ad (ix_ g + 8))), (2, .ref (ad 40)), (3, .int (nI n)), (4, .int (nI 0))]) rfl ?_
  refine go_eqw (w' := cW_ T ad K n (hc_bring g 0 σ)) (rfl) ?_
  refine (lp_up (P := fun j => Go_ P l e (rm_d 0) s m args below meth c D cl_ A 6 0 0 _ (cW_ T ad K n (hc_bring g j σ)) 11 [(0, .ref (ad 0)), (1, .ref (ad (ix_ g + 8))), (2, .ref (ad 40)), (3, .int (nI n)), (4, .int (nI j))] []) n (fun j hj ih => ?_)) 0 (Nat.zero_le _) 
  refine go_iload (i := 4) X rfl dc_H_bringIdleHeadsTo_11 ?_
  refine go_iload_n (i := 3) X rfl rfl dc_H_bringIdleHeadsTo_13 ?_
  refine go_icmp_ge (tgt := 44) X dc_H_bringIdleHeadsTo_14 (by decide) (fun h14 => ?_) (fun h14 => ?_)
  · have e32 : j = n := by rw [iz_le, iz_nI (by omega), iz_nI (by omega)] at h14; omega
    subst e32
    exact go_vret X hr dc_H_bringIdleHeadsTo_44 rfl rfl
  · have hlt : j < n := by rw [iz_le, iz_nI (by omega), iz_nI (by omega)] at h14; omega
    have hx : Ix_ (nI j) n j := Ix_n hlt (by omega)
    refine go_aload_n (i := 2) X rfl rfl dc_H_bringIdleHeadsTo_17 ?_
    refine go_iload (i := 4) X rfl dc_H_bringIdleHeadsTo_18 ?_
    refine gx_cl (k := j) X (by assumption) dc_H_bringIdleHeadsTo_20 ?_
    refine go_astore (i := 5) X (by decide) dc_H_bringIdleHeadsTo_21 ?_
    refine go_aload (i := 5) X rfl dc_H_bringIdleHeadsTo_23 ?_
    refine gc_get (v := .int (hc_bring g j σ 10 (j))) X (by first | assumption | exact Ix_lt (by assumption)) 1 (by decide) fl_H_63 rfl dc_H_bringIdleHeadsTo_25 ?_
    refine go_iconst (v := (-1)) X (by decide) dc_H_bringIdleHeadsTo_28 ?_
    refine go_icmp_ne (tgt := 38) X dc_H_bringIdleHeadsTo_29 (by decide) (fun h29 => ?_) (fun h29 => ?_)
    · refine go_iinc (i := 4) (v := nI (j + 1)) X rfl (by rw [lit1]; exact nI_1 j) (by decide) dc_H_bringIdleHeadsTo_38 ?_
      refine go_goto (tgt := 11) X dc_H_bringIdleHeadsTo_41 (by decide) ?_
      have ih2 := ih hlt
      rw [← bg_f h29] at ih2
      refine go_loc (L' := [(0, .ref (ad 0)), (1, .ref (ad (ix_ g + 8))), (2, .ref (ad 40)), (3, .int (nI n)), (4, .int (nI (j + 1)))]) rfl ?_
      exact ih2
    · refine go_aload (i := 5) X rfl dc_H_bringIdleHeadsTo_32 ?_
      refine go_aload_n (i := 1) X rfl rfl dc_H_bringIdleHeadsTo_34 ?_
      refine gc_putR (x := g) X 6 8 (by first | assumption | exact Ix_lt (by assumption)) (by decide) fl_H_126 rfl (tk_C 6 (by decide)) (rf_ix (by assumption)) rfl rfl (cu_8 _ _) dc_H_bringIdleHeadsTo_35 ?_
      refine go_iinc (i := 4) (v := nI (j + 1)) X rfl (by rw [lit1]; exact nI_1 j) (by decide) dc_H_bringIdleHeadsTo_38 ?_
      refine go_goto (tgt := 11) X dc_H_bringIdleHeadsTo_41 (by decide) ?_
      have ih2 := ih hlt
      rw [← bg_t h29] at ih2
      refine go_loc (L' := [(0, .ref (ad 0)), (1, .ref (ad (ix_ g + 8))), (2, .ref (ad 40)), (3, .int (nI n)), (4, .int (nI (j + 1)))]) rfl ?_
      exact ih2
set_option maxHeartbeats 4000000 in
set_option maxRecDepth 20000 in
theorem tc_leastHeadNumber (l : Launch) (D : va_G) (T : Nat → ClassId) (ad : Nat → Nat) (A : Nat → Prop) (nw : List Cond) (K n : Nat) {σ : ST_} (hn : n ≤ 5) (h0 : 0 < n) (hh : ∀ q, q < n → Ix_ (σ 8 q) 32 (ix_ (σ 8 q)))  : cc_ l D T ad K n A nw yn_H_leastHeadNumber (.code yn_H_leastHeadNumber cd_H_leastHeadNumber 6 (some .int)) 1 [.ref (ad 0)] σ σ (some (.int (hc_leastF σ n))) := by
  refine go_in (by decide) (Nat.le_of_ble_eq_true rfl) (List.forall_mem_cons.mpr ⟨rfl, fun _ h => nomatch h⟩) ?_
  intro P e s m args below meth c X hr hnm hN
  replace X : Cx_ P l e (rm_d 1) s m args below meth c cd_H_leastHeadNumber 6 rn_H D cl_ (tys_ T) TG_ := X
  refine go_loc (L' := [(0, .ref (ad 0))]) rfl ?_
  have hx0 : Ix_ 0 n 0 := Ix_n (j := 0) h0 (by omega)
  have hb0 := hh 0 h0
  refine go_aload_n (i := 0) X rfl rfl dc_H_leastHeadNumber_0 ?_
  refine gh_get X 0 (by decide) fl_H_49 rfl dc_H_leastHeadNumber_1 ?_
  refine go_iconst (v := 0) X (by decide) dc_H_leastHeadNumber_4 ?_
  refine gx_cl (k := 0) X (by assumption) dc_H_leastHeadNumber_5 ?_
  refine gc_getR (x := σ 8 (0)) (j := ix_ (σ 8 (0))) X (by first | assumption | exact Ix_lt (by assumption)) 6 (by decide) fl_H_126 rfl (by assumption) dc_H_leastHeadNumber_6 ?_
  refine gn_get (v := .int (σ 2 (ix_ (σ 8 (0))))) X (by first | assumption | exact Ix_lt (by assumption)) 5 (by decide) fl_H_43 rfl dc_H_leastHeadNumber_9 ?_
  refine go_istore_n (i := 1) X rfl (by decide) dc_H_leastHeadNumber_12 ?_
  refine go_aload_n (i := 0) X rfl rfl dc_H_leastHeadNumber_13 ?_
  refine gh_get X 0 (by decide) fl_H_49 rfl dc_H_leastHeadNumber_14 ?_
  refine go_astore_n (i := 2) X rfl (by decide) dc_H_leastHeadNumber_17 ?_
  refine go_aload_n (i := 2) X rfl rfl dc_H_leastHeadNumber_18 ?_
  refine gx_lc X dc_H_leastHeadNumber_19 ?_
  refine go_istore_n (i := 3) X rfl (by decide) dc_H_leastHeadNumber_20 ?_
  refine go_iconst (v := nI 0) X (by decide) dc_H_leastHeadNumber_21 ?_
  refine go_istore (i := 4) X (by decide) dc_H_leastHeadNumber_22 ?_
  refine go_loc (L' := [(0, .ref (ad 0)), (1, .int (hc_leastF σ 0)), (2, .ref (ad 40)), (3, .int (nI n)), (4, .int (nI 0))]) rfl ?_
  refine (lp_up (P := fun j => Go_ P l e (rm_d 1) s m args below meth c D cl_ A 6 0 0 _ (cW_ T ad K n (σ)) 24 [(0, .ref (ad 0)), (1, .int (hc_leastF σ j)), (2, .ref (ad 40)), (3, .int (nI n)), (4, .int (nI j))] []) n (fun j hj ih => ?_)) 0 (Nat.zero_le _) 
  refine go_iload (i := 4) X rfl dc_H_leastHeadNumber_24 ?_
  refine go_iload_n (i := 3) X rfl rfl dc_H_leastHeadNumber_26 ?_
  refine go_icmp_ge (tgt := 55) X dc_H_leastHeadNumber_27 (by decide) (fun h27 => ?_) (fun h27 => ?_)
  · have e32 : j = n := by rw [iz_le, iz_nI (by omega), iz_nI (by omega)] at h27; omega
    subst e32
    refine go_iload_n (i := 1) X rfl rfl dc_H_leastHeadNumber_55 ?_
    exact go_iret X hr dc_H_leastHeadNumber_56 rfl rfl
  · have hlt : j < n := by rw [iz_le, iz_nI (by omega), iz_nI (by omega)] at h27; omega
    have hx : Ix_ (nI j) n j := Ix_n hlt (by omega)
    have hbj := hh j hlt
    refine go_aload_n (i := 2) X rfl rfl dc_H_leastHeadNumber_30 ?_
    refine go_iload (i := 4) X rfl dc_H_leastHeadNumber_31 ?_
    refine gx_cl (k := j) X (by assumption) dc_H_leastHeadNumber_33 ?_
    refine go_astore (i := 5) X (by decide) dc_H_leastHeadNumber_34 ?_
    refine go_iload_n (i := 1) X rfl rfl dc_H_leastHeadNumber_36 ?_
    refine go_aload (i := 5) X rfl dc_H_leastHeadNumber_37 ?_
    refine gc_getR (x := σ 8 (j)) (j := ix_ (σ 8 (j))) X (by first | assumption | exact Ix_lt (by assumption)) 6 (by decide) fl_H_126 rfl (by assumption) dc_H_leastHeadNumber_39 ?_
    refine gn_get (v := .int (σ 2 (ix_ (σ 8 (j))))) X (by first | assumption | exact Ix_lt (by assumption)) 5 (by decide) fl_H_43 rfl dc_H_leastHeadNumber_42 ?_
    refine go_min X ml_H_9 (by decide) (Nat.le_of_ble_eq_true rfl) ⟨Nat.zero_le _, Nat.zero_le _⟩ dc_H_leastHeadNumber_45 ?_
    refine go_istore_n (i := 1) X rfl (by decide) dc_H_leastHeadNumber_48 ?_
    refine go_iinc (i := 4) (v := nI (j + 1)) X rfl (by rw [lit1]; exact nI_1 j) (by decide) dc_H_leastHeadNumber_49 ?_
    refine go_goto (tgt := 24) X dc_H_leastHeadNumber_52 (by decide) ?_
    have ih2 := ih hlt
    rw [← le_s j] at ih2
    refine go_loc (L' := [(0, .ref (ad 0)), (1, .int (if σ 2 (ix_ (σ 8 j)) < hc_leastF σ j then σ 2 (ix_ (σ 8 j)) else hc_leastF σ j)), (2, .ref (ad 40)), (3, .int (nI n)), (4, .int (nI (j + 1)))]) rfl ?_
    exact ih2
set_option maxHeartbeats 4000000 in
set_option maxRecDepth 20000 in
theorem tc_releaseBelow (l : Launch) (D : va_G) (T : Nat → ClassId) (ad : Nat → Nat) (A : Nat → Prop) (nw : List Cond) (K n : Nat) {σ : ST_} {x : Int32} : cc_ l D T ad K n A nw yn_H_releaseBelow (.code yn_H_releaseBelow cd_H_releaseBelow 7 (some .int)) 1 [.ref (ad 0), .int x] σ (hc_relF x 32 σ).1 (some (.int (hc_relF x 32 σ).2)) := by
  refine go_in (by decide) (Nat.le_of_ble_eq_true rfl) (List.forall_mem_cons.mpr ⟨rfl, List.forall_mem_cons.mpr ⟨rfl, fun _ h => nomatch h⟩⟩) ?_
  intro P e s m args below meth c X hr hnm hN
  replace X : Cx_ P l e (rm_d 1) s m args below meth c cd_H_releaseBelow 7 rn_H D cl_ (tys_ T) TG_ := X
  refine go_loc (L' := [(0, .ref (ad 0)), (1, .int x)]) rfl ?_
  refine go_iconst (v := 0) X (by decide) dc_H_releaseBelow_0 ?_
  refine go_istore_n (i := 2) X rfl (by decide) dc_H_releaseBelow_1 ?_
  refine go_aload_n (i := 0) X rfl rfl dc_H_releaseBelow_2 ?_
  refine gh_get X 1 (by decide) fl_H_34 rfl dc_H_releaseBelow_3 ?_
  refine go_astore_n (i := 3) X rfl (by decide) dc_H_releaseBelow_6 ?_
  refine go_aload_n (i := 3) X rfl rfl dc_H_releaseBelow_7 ?_
  refine gx_ln X dc_H_releaseBelow_8 ?_
  refine go_istore (i := 4) X (by decide) dc_H_releaseBelow_9 ?_
  refine go_iconst (v := nI 0) X (by decide) dc_H_releaseBelow_11 ?_
  refine go_istore (i := 5) X (by decide) dc_H_releaseBelow_12 ?_
  refine go_loc (L' := [(0, .ref (ad 0)), (1, .int x), (2, .int ((hc_relF x 0 σ).2)), (3, .ref (ad 7)), (4, .int (nI 32)), (5, .int (nI 0))]) rfl ?_
  refine go_eqw (w' := cW_ T ad K n ((hc_relF x 0 σ).1)) (rfl) ?_
  refine (lp_up (P := fun j => Go_ P l e (rm_d 1) s m args below meth c D cl_ A 7 0 0 _ (cW_ T ad K n ((hc_relF x j σ).1)) 14 [(0, .ref (ad 0)), (1, .int x), (2, .int ((hc_relF x j σ).2)), (3, .ref (ad 7)), (4, .int (nI 32)), (5, .int (nI j))] []) 32 (fun j hj ih => ?_)) 0 (Nat.zero_le _) 
  refine go_iload (i := 5) X rfl dc_H_releaseBelow_14 ?_
  refine go_iload (i := 4) X rfl dc_H_releaseBelow_16 ?_
  refine go_icmp_ge (tgt := 59) X dc_H_releaseBelow_18 (by decide) (fun h18 => ?_) (fun h18 => ?_)
  · have e32 : j = 32 := by rw [iz_le, iz_nI (by omega), iz_nI (by omega)] at h18; omega
    subst e32
    refine go_iload_n (i := 2) X rfl rfl dc_H_releaseBelow_59 ?_
    exact go_iret X hr dc_H_releaseBelow_60 rfl rfl
  · have hlt : j < 32 := by rw [iz_le, iz_nI (by omega), iz_nI (by omega)] at h18; omega
    have hx : Ix_ (nI j) 32 j := Ix_n hlt (by omega)
    refine go_aload_n (i := 3) X rfl rfl dc_H_releaseBelow_21 ?_
    refine go_iload (i := 5) X rfl dc_H_releaseBelow_22 ?_
    refine gx_nd (k := j) X (by assumption) dc_H_releaseBelow_24 ?_
    refine go_astore (i := 6) X (by decide) dc_H_releaseBelow_25 ?_
    refine go_aload (i := 6) X rfl dc_H_releaseBelow_27 ?_
    refine go_cV (C := rn_N) (ci := 1) (i := j + 8) (n := 0) (rest := []) X hN (tc_isOnLog l D T ad A nw K n (σ := (hc_relF x j σ).1) (k := j) hlt) ml_H_103 im_N_isOnLog sl_N_NisOnLog ik_N co_N_isOnLog ⟨rfl, by decide, by decide, by decide +kernel⟩ ⟨rfl, rfl, by decide, by decide⟩ rfl (cw_n hlt) rfl rfl (Nat.le_of_ble_eq_true rfl) dc_H_releaseBelow_29 ⟨Nat.zero_le _, Nat.zero_le _⟩ ?_
    refine go_if_eq (tgt := 53) X dc_H_releaseBelow_32 (by decide) (fun h32 => ?_) (fun h32 => ?_)
    · refine go_iinc (i := 5) (v := nI (j + 1)) X rfl (by rw [lit1]; exact nI_1 j) (by decide) dc_H_releaseBelow_53 ?_
      refine go_goto (tgt := 14) X dc_H_releaseBelow_56 (by decide) ?_
      have ih2 := ih hlt
      rw [← re_f (j := j) (fun q => by rw [cd_f h32] at q; exact absurd q.1 (by decide))] at ih2
      refine go_loc (L' := [(0, .ref (ad 0)), (1, .int x), (2, .int ((hc_relF x j σ).2)), (3, .ref (ad 7)), (4, .int (nI 32)), (5, .int (nI (j + 1)))]) rfl ?_
      exact ih2
    · refine go_aload (i := 6) X rfl dc_H_releaseBelow_35 ?_
      refine gn_get (v := .int ((hc_relF x j σ).1 2 (j))) X (by first | assumption | exact Ix_lt (by assumption)) 5 (by decide) fl_H_43 rfl dc_H_releaseBelow_37 ?_
      refine go_iload_n (i := 1) X rfl rfl dc_H_releaseBelow_40 ?_
      refine go_icmp_ge (tgt := 53) X dc_H_releaseBelow_41 (by decide) (fun h41 => ?_) (fun h41 => ?_)
      · refine go_iinc (i := 5) (v := nI (j + 1)) X rfl (by rw [lit1]; exact nI_1 j) (by decide) dc_H_releaseBelow_53 ?_
        refine go_goto (tgt := 14) X dc_H_releaseBelow_56 (by decide) ?_
        have ih2 := ih hlt
        rw [← re_f (j := j) (fun q => q.2 h41)] at ih2
        refine go_loc (L' := [(0, .ref (ad 0)), (1, .int x), (2, .int ((hc_relF x j σ).2)), (3, .ref (ad 7)), (4, .int (nI 32)), (5, .int (nI (j + 1)))]) rfl ?_
        exact ih2
      · refine go_aload (i := 6) X rfl dc_H_releaseBelow_44 ?_
        refine go_iconst (v := 0) X (by decide) dc_H_releaseBelow_46 ?_
        refine gn_put X 0 1 (by first | assumption | exact Ix_lt (by assumption)) (by decide) fl_H_39 rfl (tk_N 0 (by decide)) rfl rfl (nu_1 (by first | assumption | exact Ix_lt (by assumption)) _) dc_H_releaseBelow_47 ?_
        refine go_iinc (i := 2) (v := (hc_relF x j σ).2 + 1) X rfl (by rw [lit1]) (by decide) dc_H_releaseBelow_50 ?_
        refine go_iinc (i := 5) (v := nI (j + 1)) X rfl (by rw [lit1]; exact nI_1 j) (by decide) dc_H_releaseBelow_53 ?_
        refine go_goto (tgt := 14) X dc_H_releaseBelow_56 (by decide) ?_
        have ih2 := ih hlt
        rw [← re_t (j := j) (cd_t h32) h41] at ih2
        refine go_loc (L' := [(0, .ref (ad 0)), (1, .int x), (2, .int ((hc_relF x j σ).2 + 1)), (3, .ref (ad 7)), (4, .int (nI 32)), (5, .int (nI (j + 1)))]) rfl ?_
        exact ih2
set_option maxHeartbeats 4000000 in
set_option maxRecDepth 20000 in
theorem tc_cut (l : Launch) (D : va_G) (T : Nat → ClassId) (ad : Nat → Nat) (A : Nat → Prop) (nw : List Cond) (K n : Nat) {σ : ST_} (hn : n ≤ 5) (h0 : 0 < n) (hh : ∀ q, q < n → Ix_ (σ 8 q) 32 (ix_ (σ 8 q)))  : cc_ l D T ad K n A nw yn_H_cut (.code yn_H_cut cd_H_cut 1 (some .int)) 2 [.ref (ad 0)] σ (hc_cut n σ).1 (some (.int (hc_cut n σ).2)) := by
  refine go_in (by decide) (Nat.le_of_ble_eq_true rfl) (List.forall_mem_cons.mpr ⟨rfl, fun _ h => nomatch h⟩) ?_
  intro P e s m args below meth c X hr hnm hN
  replace X : Cx_ P l e (rm_d 2) s m args below meth c cd_H_cut 1 rn_H D cl_ (tys_ T) TG_ := X
  refine go_loc (L' := [(0, .ref (ad 0))]) rfl ?_
  refine go_aload_n (i := 0) X rfl rfl dc_H_cut_0 ?_
  refine go_aload_n (i := 0) X rfl rfl dc_H_cut_1 ?_
  refine go_cV (C := rn_H) (ci := 0) (i := 0) (n := 0) (rest := [.ref (ad 0)]) X hN (tc_greatestHead l D T ad A nw K n (σ := σ) hn h0 hh) ml_H_130 im_H_greatestHead sl_H_HgreatestHead ik_H co_H_greatestHead ⟨rfl, by decide, by decide, by decide +kernel⟩ ⟨rfl, rfl, by decide, by decide⟩ rfl (cw_h) rfl rfl (Nat.le_of_ble_eq_true rfl) dc_H_cut_2 ⟨Nat.zero_le _, Nat.zero_le _⟩ ?_
  refine go_cVv (C := rn_H) (ci := 0) (i := 0) (n := 1) (rest := []) X hN (tc_bringIdleHeadsTo l D T ad A nw K n (σ := σ) (g := hc_farF σ n) hn (far_ix hh h0 n (by omega))) ml_H_134 im_H_bringIdleHeadsTo sl_H_HbringIdleHeadsTo ik_H co_H_bringIdleHeadsTo ⟨rfl, by decide, by decide, by decide +kernel⟩ ⟨rfl, rfl, by decide, by decide⟩ rfl (cw_h) rfl rfl (Nat.le_of_ble_eq_true rfl) dc_H_cut_5 ⟨Nat.zero_le _, Nat.zero_le _⟩ ?_
  refine go_aload_n (i := 0) X rfl rfl dc_H_cut_8 ?_
  refine go_aload_n (i := 0) X rfl rfl dc_H_cut_9 ?_
  refine go_cV (C := rn_H) (ci := 0) (i := 0) (n := 0) (rest := [.ref (ad 0)]) X hN (tc_leastHeadNumber l D T ad A nw K n (σ := (hc_bring (hc_farF σ n) n σ)) hn h0 (bring_ix hh h0)) ml_H_138 im_H_leastHeadNumber sl_H_HleastHeadNumber ik_H co_H_leastHeadNumber ⟨rfl, by decide, by decide, by decide +kernel⟩ ⟨rfl, rfl, by decide, by decide⟩ rfl (cw_h) rfl rfl (Nat.le_of_ble_eq_true rfl) dc_H_cut_10 ⟨Nat.zero_le _, Nat.zero_le _⟩ ?_
  refine go_cV (C := rn_H) (ci := 0) (i := 0) (n := 1) (rest := []) X hN (tc_releaseBelow l D T ad A nw K n (σ := (hc_bring (hc_farF σ n) n σ)) (x := hc_leastF (hc_bring (hc_farF σ n) n σ) n)) ml_H_141 im_H_releaseBelow sl_H_HreleaseBelow ik_H co_H_releaseBelow ⟨rfl, by decide, by decide, by decide +kernel⟩ ⟨rfl, rfl, by decide, by decide⟩ rfl (cw_h) rfl rfl (Nat.le_of_ble_eq_true rfl) dc_H_cut_13 ⟨Nat.zero_le _, Nat.zero_le _⟩ ?_
  exact go_iret X hr dc_H_cut_16 rfl rfl
end C2
end
