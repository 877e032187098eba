-- ===== PART A: goes FIRST, ahead of the names: the tables' words, and 'selects' of the private methods out of them =====
/-- a private method of a class that the tables say can be made, by its rows of tables_1 -/
def lw_okq (q : MethodName × Nat) : Prop := (q.1.cls ≠ "java/lang/invoke/MethodHandle" ∧ q.1.cls ≠ "java/lang/invoke/VarHandle") ∧ Cond.instantiable q.1.cls q.2 ∈ tables_1 ∧ Cond.privateMethod q.1 ∈ tables_1 ∧ Cond.instanceMethod q.1 ∈ tables_1
theorem lw_p0 : lw_okq (⟨"PortBills$TariffText", "takes", "(I)Z"⟩, 5) := ⟨⟨by decide +kernel, by decide +kernel⟩, List.mem_of_getElem? (i := 30) (by decide +kernel), List.mem_of_getElem? (i := 128) (by decide +kernel), List.mem_of_getElem? (i := 129) (by decide +kernel)⟩
theorem lw_p1 : lw_okq (⟨"PortBills$TariffText", "readRows", "()I"⟩, 5) := ⟨⟨by decide +kernel, by decide +kernel⟩, List.mem_of_getElem? (i := 30) (by decide +kernel), List.mem_of_getElem? (i := 136) (by decide +kernel), List.mem_of_getElem? (i := 137) (by decide +kernel)⟩
theorem lw_p2 : lw_okq (⟨"PortBills$TariffText", "readRow", "()Z"⟩, 5) := ⟨⟨by decide +kernel, by decide +kernel⟩, List.mem_of_getElem? (i := 30) (by decide +kernel), List.mem_of_getElem? (i := 140) (by decide +kernel), List.mem_of_getElem? (i := 141) (by decide +kernel)⟩
theorem lw_p3 : lw_okq (⟨"PortBills$TariffText", "next", "()C"⟩, 5) := ⟨⟨by decide +kernel, by decide +kernel⟩, List.mem_of_getElem? (i := 30) (by decide +kernel), List.mem_of_getElem? (i := 144) (by decide +kernel), List.mem_of_getElem? (i := 145) (by decide +kernel)⟩
theorem lw_p4 : lw_okq (⟨"PortBills$TariffText", "readNumber", "([III)Z"⟩, 5) := ⟨⟨by decide +kernel, by decide +kernel⟩, List.mem_of_getElem? (i := 30) (by decide +kernel), List.mem_of_getElem? (i := 151) (by decide +kernel), List.mem_of_getElem? (i := 152) (by decide +kernel)⟩
theorem lw_p5 : lw_okq (⟨"PortBills$TariffText", "passes", "(C)Z"⟩, 5) := ⟨⟨by decide +kernel, by decide +kernel⟩, List.mem_of_getElem? (i := 30) (by decide +kernel), List.mem_of_getElem? (i := 158) (by decide +kernel), List.mem_of_getElem? (i := 159) (by decide +kernel)⟩
theorem lw_p6 : lw_okq (⟨"PortBills", "takeOverTariffs", "()V"⟩, 11) := ⟨⟨by decide +kernel, by decide +kernel⟩, List.mem_of_getElem? (i := 22) (by decide +kernel), List.mem_of_getElem? (i := 162) (by decide +kernel), List.mem_of_getElem? (i := 163) (by decide +kernel)⟩
theorem lw_p7 : lw_okq (⟨"PortBills$TariffText", "clear", "()V"⟩, 5) := ⟨⟨by decide +kernel, by decide +kernel⟩, List.mem_of_getElem? (i := 30) (by decide +kernel), List.mem_of_getElem? (i := 169) (by decide +kernel), List.mem_of_getElem? (i := 170) (by decide +kernel)⟩
theorem lw_p8 : lw_okq (⟨"PortBills", "linesOf", "(I)I"⟩, 11) := ⟨⟨by decide +kernel, by decide +kernel⟩, List.mem_of_getElem? (i := 22) (by decide +kernel), List.mem_of_getElem? (i := 185) (by decide +kernel), List.mem_of_getElem? (i := 186) (by decide +kernel)⟩
theorem lw_p9 : lw_okq (⟨"java/lang/Throwable", "fillInStackTrace", "(I)Ljava/lang/Throwable;"⟩, 6) := ⟨⟨by decide +kernel, by decide +kernel⟩, List.mem_of_getElem? (i := 255) (by decide +kernel), List.mem_of_getElem? (i := 253) (by decide +kernel), List.mem_of_getElem? (i := 254) (by decide +kernel)⟩
theorem lw_p10 : lw_okq (⟨"PortBills", "hasTariff", "(I)Z"⟩, 11) := ⟨⟨by decide +kernel, by decide +kernel⟩, List.mem_of_getElem? (i := 22) (by decide +kernel), List.mem_of_getElem? (i := 285) (by decide +kernel), List.mem_of_getElem? (i := 286) (by decide +kernel)⟩
theorem lw_p11 : lw_okq (⟨"PortBills", "kindsThatWait", "(I)I"⟩, 11) := ⟨⟨by decide +kernel, by decide +kernel⟩, List.mem_of_getElem? (i := 22) (by decide +kernel), List.mem_of_getElem? (i := 331) (by decide +kernel), List.mem_of_getElem? (i := 332) (by decide +kernel)⟩
theorem lw_p12 : lw_okq (⟨"PortBills", "billedLine", "(II)LPortBills$Line;"⟩, 11) := ⟨⟨by decide +kernel, by decide +kernel⟩, List.mem_of_getElem? (i := 22) (by decide +kernel), List.mem_of_getElem? (i := 336) (by decide +kernel), List.mem_of_getElem? (i := 337) (by decide +kernel)⟩
theorem lw_p13 : lw_okq (⟨"PortBills", "centsFor", "(III)J"⟩, 11) := ⟨⟨by decide +kernel, by decide +kernel⟩, List.mem_of_getElem? (i := 22) (by decide +kernel), List.mem_of_getElem? (i := 344) (by decide +kernel), List.mem_of_getElem? (i := 345) (by decide +kernel)⟩
theorem lw_p14 : lw_okq (⟨"java/util/ArrayList", "add", "(Ljava/lang/Object;[Ljava/lang/Object;I)V"⟩, 3) := ⟨⟨by decide +kernel, by decide +kernel⟩, List.mem_of_getElem? (i := 60) (by decide +kernel), List.mem_of_getElem? (i := 397) (by decide +kernel), List.mem_of_getElem? (i := 398) (by decide +kernel)⟩
theorem lw_p15 : lw_okq (⟨"java/util/ArrayList", "grow", "()[Ljava/lang/Object;"⟩, 3) := ⟨⟨by decide +kernel, by decide +kernel⟩, List.mem_of_getElem? (i := 60) (by decide +kernel), List.mem_of_getElem? (i := 401) (by decide +kernel), List.mem_of_getElem? (i := 402) (by decide +kernel)⟩
def lw_privs_1 : List (MethodName × Nat) := [(⟨"PortBills$TariffText", "takes", "(I)Z"⟩, 5), (⟨"PortBills$TariffText", "readRows", "()I"⟩, 5), (⟨"PortBills$TariffText", "readRow", "()Z"⟩, 5), (⟨"PortBills$TariffText", "next", "()C"⟩, 5), (⟨"PortBills$TariffText", "readNumber", "([III)Z"⟩, 5), (⟨"PortBills$TariffText", "passes", "(C)Z"⟩, 5), (⟨"PortBills", "takeOverTariffs", "()V"⟩, 11), (⟨"PortBills$TariffText", "clear", "()V"⟩, 5), (⟨"PortBills", "linesOf", "(I)I"⟩, 11), (⟨"java/lang/Throwable", "fillInStackTrace", "(I)Ljava/lang/Throwable;"⟩, 6), (⟨"PortBills", "hasTariff", "(I)Z"⟩, 11), (⟨"PortBills", "kindsThatWait", "(I)I"⟩, 11), (⟨"PortBills", "billedLine", "(II)LPortBills$Line;"⟩, 11), (⟨"PortBills", "centsFor", "(III)J"⟩, 11), (⟨"java/util/ArrayList", "add", "(Ljava/lang/Object;[Ljava/lang/Object;I)V"⟩, 3), (⟨"java/util/ArrayList", "grow", "()[Ljava/lang/Object;"⟩, 3)]
theorem lw_r1 : ∀ q ∈ lw_privs_1, lw_okq q := List.forall_mem_cons.mpr ⟨lw_p0, List.forall_mem_cons.mpr ⟨lw_p1, List.forall_mem_cons.mpr ⟨lw_p2, List.forall_mem_cons.mpr ⟨lw_p3, List.forall_mem_cons.mpr ⟨lw_p4, List.forall_mem_cons.mpr ⟨lw_p5, List.forall_mem_cons.mpr ⟨lw_p6, List.forall_mem_cons.mpr ⟨lw_p7, List.forall_mem_cons.mpr ⟨lw_p8, List.forall_mem_cons.mpr ⟨lw_p9, List.forall_mem_cons.mpr ⟨lw_p10, List.forall_mem_cons.mpr ⟨lw_p11, List.forall_mem_cons.mpr ⟨lw_p12, List.forall_mem_cons.mpr ⟨lw_p13, List.forall_mem_cons.mpr ⟨lw_p14, List.forall_mem_cons.mpr ⟨lw_p15, fun _ h => absurd h List.not_mem_nil⟩⟩⟩⟩⟩⟩⟩⟩⟩⟩⟩⟩⟩⟩⟩⟩
theorem lw_p16 : lw_okq (⟨"java/util/ArrayList", "grow", "(I)[Ljava/lang/Object;"⟩, 3) := ⟨⟨by decide +kernel, by decide +kernel⟩, List.mem_of_getElem? (i := 60) (by decide +kernel), List.mem_of_getElem? (i := 405) (by decide +kernel), List.mem_of_getElem? (i := 406) (by decide +kernel)⟩
theorem lw_p17 : lw_okq (⟨"PortBills", "forgetEvents", "(I)V"⟩, 11) := ⟨⟨by decide +kernel, by decide +kernel⟩, List.mem_of_getElem? (i := 22) (by decide +kernel), List.mem_of_getElem? (i := 445) (by decide +kernel), List.mem_of_getElem? (i := 446) (by decide +kernel)⟩
theorem lw_p18 : lw_okq (⟨"PortBills", "isLine", "(I)Z"⟩, 11) := ⟨⟨by decide +kernel, by decide +kernel⟩, List.mem_of_getElem? (i := 22) (by decide +kernel), List.mem_of_getElem? (i := 456) (by decide +kernel), List.mem_of_getElem? (i := 457) (by decide +kernel)⟩
theorem lw_p19 : lw_okq (⟨"PortBills$Line", "isCorrection", "()Z"⟩, 9) := ⟨⟨by decide +kernel, by decide +kernel⟩, List.mem_of_getElem? (i := 342) (by decide +kernel), List.mem_of_getElem? (i := 463) (by decide +kernel), List.mem_of_getElem? (i := 464) (by decide +kernel)⟩
theorem lw_p20 : lw_okq (⟨"PortBills", "owedNow", "(I)J"⟩, 11) := ⟨⟨by decide +kernel, by decide +kernel⟩, List.mem_of_getElem? (i := 22) (by decide +kernel), List.mem_of_getElem? (i := 483) (by decide +kernel), List.mem_of_getElem? (i := 484) (by decide +kernel)⟩
theorem lw_p21 : lw_okq (⟨"PortBills$Line", "part", "(I)J"⟩, 9) := ⟨⟨by decide +kernel, by decide +kernel⟩, List.mem_of_getElem? (i := 342) (by decide +kernel), List.mem_of_getElem? (i := 547) (by decide +kernel), List.mem_of_getElem? (i := 548) (by decide +kernel)⟩
theorem lw_p22 : lw_okq (⟨"PortBillsModel", "fails", "(I)I"⟩, 23) := ⟨⟨by decide +kernel, by decide +kernel⟩, List.mem_of_getElem? (i := 551) (by decide +kernel), List.mem_of_getElem? (i := 660) (by decide +kernel), List.mem_of_getElem? (i := 661) (by decide +kernel)⟩
theorem lw_p23 : lw_okq (⟨"PortBillsModel", "unitsOf", "(II)I"⟩, 23) := ⟨⟨by decide +kernel, by decide +kernel⟩, List.mem_of_getElem? (i := 551) (by decide +kernel), List.mem_of_getElem? (i := 684) (by decide +kernel), List.mem_of_getElem? (i := 685) (by decide +kernel)⟩
theorem lw_p24 : lw_okq (⟨"PortBillsModel", "billKind", "(II)V"⟩, 23) := ⟨⟨by decide +kernel, by decide +kernel⟩, List.mem_of_getElem? (i := 551) (by decide +kernel), List.mem_of_getElem? (i := 688) (by decide +kernel), List.mem_of_getElem? (i := 689) (by decide +kernel)⟩
theorem lw_p25 : lw_okq (⟨"PortBillsModel", "newLine", "(IIIIJI)V"⟩, 23) := ⟨⟨by decide +kernel, by decide +kernel⟩, List.mem_of_getElem? (i := 551) (by decide +kernel), List.mem_of_getElem? (i := 693) (by decide +kernel), List.mem_of_getElem? (i := 694) (by decide +kernel)⟩
theorem lw_p26 : lw_okq (⟨"PortBillsModel", "takeEvents", "(I)V"⟩, 23) := ⟨⟨by decide +kernel, by decide +kernel⟩, List.mem_of_getElem? (i := 551) (by decide +kernel), List.mem_of_getElem? (i := 697) (by decide +kernel), List.mem_of_getElem? (i := 698) (by decide +kernel)⟩
theorem lw_p27 : lw_okq (⟨"PortBillsModel", "isLine", "(I)Z"⟩, 23) := ⟨⟨by decide +kernel, by decide +kernel⟩, List.mem_of_getElem? (i := 551) (by decide +kernel), List.mem_of_getElem? (i := 705) (by decide +kernel), List.mem_of_getElem? (i := 706) (by decide +kernel)⟩
theorem lw_p28 : lw_okq (⟨"PortBillsModel", "whole", "(I)J"⟩, 23) := ⟨⟨by decide +kernel, by decide +kernel⟩, List.mem_of_getElem? (i := 551) (by decide +kernel), List.mem_of_getElem? (i := 710) (by decide +kernel), List.mem_of_getElem? (i := 711) (by decide +kernel)⟩
theorem lw_p29 : lw_okq (⟨"PortBillsModel", "left", "(I)J"⟩, 23) := ⟨⟨by decide +kernel, by decide +kernel⟩, List.mem_of_getElem? (i := 551) (by decide +kernel), List.mem_of_getElem? (i := 722) (by decide +kernel), List.mem_of_getElem? (i := 723) (by decide +kernel)⟩
theorem lw_p30 : lw_okq (⟨"PortBillsModel", "isOut", "(I)Z"⟩, 23) := ⟨⟨by decide +kernel, by decide +kernel⟩, List.mem_of_getElem? (i := 551) (by decide +kernel), List.mem_of_getElem? (i := 726) (by decide +kernel), List.mem_of_getElem? (i := 727) (by decide +kernel)⟩
def lw_privs_2 : List (MethodName × Nat) := [(⟨"java/util/ArrayList", "grow", "(I)[Ljava/lang/Object;"⟩, 3), (⟨"PortBills", "forgetEvents", "(I)V"⟩, 11), (⟨"PortBills", "isLine", "(I)Z"⟩, 11), (⟨"PortBills$Line", "isCorrection", "()Z"⟩, 9), (⟨"PortBills", "owedNow", "(I)J"⟩, 11), (⟨"PortBills$Line", "part", "(I)J"⟩, 9), (⟨"PortBillsModel", "fails", "(I)I"⟩, 23), (⟨"PortBillsModel", "unitsOf", "(II)I"⟩, 23), (⟨"PortBillsModel", "billKind", "(II)V"⟩, 23), (⟨"PortBillsModel", "newLine", "(IIIIJI)V"⟩, 23), (⟨"PortBillsModel", "takeEvents", "(I)V"⟩, 23), (⟨"PortBillsModel", "isLine", "(I)Z"⟩, 23), (⟨"PortBillsModel", "whole", "(I)J"⟩, 23), (⟨"PortBillsModel", "left", "(I)J"⟩, 23), (⟨"PortBillsModel", "isOut", "(I)Z"⟩, 23)]
theorem lw_r2 : ∀ q ∈ lw_privs_2, lw_okq q := List.forall_mem_cons.mpr ⟨lw_p16, List.forall_mem_cons.mpr ⟨lw_p17, List.forall_mem_cons.mpr ⟨lw_p18, List.forall_mem_cons.mpr ⟨lw_p19, List.forall_mem_cons.mpr ⟨lw_p20, List.forall_mem_cons.mpr ⟨lw_p21, List.forall_mem_cons.mpr ⟨lw_p22, List.forall_mem_cons.mpr ⟨lw_p23, List.forall_mem_cons.mpr ⟨lw_p24, List.forall_mem_cons.mpr ⟨lw_p25, List.forall_mem_cons.mpr ⟨lw_p26, List.forall_mem_cons.mpr ⟨lw_p27, List.forall_mem_cons.mpr ⟨lw_p28, List.forall_mem_cons.mpr ⟨lw_p29, List.forall_mem_cons.mpr ⟨lw_p30, fun _ h => absurd h List.not_mem_nil⟩⟩⟩⟩⟩⟩⟩⟩⟩⟩⟩⟩⟩⟩⟩
def lw_privs : List (MethodName × Nat) := lw_privs_1 ++ (lw_privs_2)
def lw_tbl : List Cond := k2_sels lw_privs ++ tables_1
theorem lw_privs_ok : ∀ q ∈ lw_privs, lw_okq q := by
  show ∀ q ∈ lw_privs_1 ++ (lw_privs_2), lw_okq q
  exact List.forall_mem_append.mpr ⟨lw_r1, lw_r2⟩

def R_PB : String := "PortBills"
def F_PB : u_T := fun k => match k with
  | 0 => ("PortBills", "text", "LPortBills$TariffText;", true)
  | 1 => ("PortBills", "tariffs", "[[I", true)
  | 2 => ("PortBills", "kindsWithTariff", "I", false)
  | 3 => ("PortBills", "waitingUnits", "[[I", true)
  | 4 => ("PortBills", "waitingEvents", "[I", true)
  | 5 => ("PortBills", "waitingInAll", "I", false)
  | 6 => ("PortBills", "discounts", "[[I", true)
  | 7 => ("PortBills", "kept", "[[I", true)
  | 8 => ("PortBills", "keptOf", "[[I", true)
  | 9 => ("PortBills", "lines", "Ljava/util/ArrayList;", true)
  | _ => ("PortBills", "paid", "[J", true)
def t_PB : Nat → FieldType := fun k => match k with
  | 0 => .object "PortBills$TariffText"
  | 1 => .array (.array .int)
  | 2 => .int
  | 3 => .array (.array .int)
  | 4 => .array .int
  | 5 => .int
  | 6 => .array (.array .int)
  | 7 => .array (.array .int)
  | 8 => .array (.array .int)
  | 9 => .object "java/util/ArrayList"
  | _ => .array .long
theorem n_PB : ∀ a, a < 11 → ∀ b, b < 11 → a ≠ b → (F_PB a).2.1 ≠ (F_PB b).2.1 := by decide +kernel
theorem t_PB_ok : ∀ k, k < 11 → parseFieldDescriptor (F_PB k).2.2.1 = some (t_PB k) := by decide +kernel
def R_TT : String := "PortBills$TariffText"
def F_TT : u_T := fun k => match k with
  | 0 => ("PortBills$TariffText", "signs", "[C", true)
  | 1 => ("PortBills$TariffText", "length", "I", false)
  | 2 => ("PortBills$TariffText", "at", "I", false)
  | 3 => ("PortBills$TariffText", "rows", "[[I", true)
  | _ => ("PortBills$TariffText", "kinds", "I", false)
def t_TT : Nat → FieldType := fun k => match k with
  | 0 => .array .char
  | 1 => .int
  | 2 => .int
  | 3 => .array (.array .int)
  | _ => .int
theorem n_TT : ∀ a, a < 5 → ∀ b, b < 5 → a ≠ b → (F_TT a).2.1 ≠ (F_TT b).2.1 := by decide +kernel
theorem t_TT_ok : ∀ k, k < 5 → parseFieldDescriptor (F_TT k).2.2.1 = some (t_TT k) := by decide +kernel
def R_LN : String := "PortBills$Line"
def F_LN : u_T := fun k => match k with
  | 0 => ("PortBills$Line", "call", "I", true)
  | 1 => ("PortBills$Line", "kind", "I", true)
  | 2 => ("PortBills$Line", "units", "I", true)
  | 3 => ("PortBills$Line", "charged", "I", true)
  | 4 => ("PortBills$Line", "cents", "J", true)
  | 5 => ("PortBills$Line", "corrects", "I", true)
  | 6 => ("PortBills$Line", "byFallback", "Z", true)
  | 7 => ("PortBills$Line", "disputed", "Z", false)
  | _ => ("PortBills$Line", "corrected", "J", false)
def t_LN : Nat → FieldType := fun k => match k with
  | 0 => .int
  | 1 => .int
  | 2 => .int
  | 3 => .int
  | 4 => .long
  | 5 => .int
  | 6 => .boolean
  | 7 => .boolean
  | _ => .long
theorem n_LN : ∀ a, a < 9 → ∀ b, b < 9 → a ≠ b → (F_LN a).2.1 ≠ (F_LN b).2.1 := by decide +kernel
theorem t_LN_ok : ∀ k, k < 9 → parseFieldDescriptor (F_LN k).2.2.1 = some (t_LN k) := by decide +kernel
def R_AL : String := "java/util/ArrayList"
def F_AL : u_T := fun k => match k with
  | 0 => ("java/util/AbstractList", "modCount", "I", false)
  | 1 => ("java/util/ArrayList", "elementData", "[Ljava/lang/Object;", false)
  | _ => ("java/util/ArrayList", "size", "I", false)
def t_AL : Nat → FieldType := fun k => match k with
  | 0 => .int
  | 1 => .array (.object "java/lang/Object")
  | _ => .int
theorem n_AL : ∀ a, a < 3 → ∀ b, b < 3 → a ≠ b → (F_AL a).2.1 ≠ (F_AL b).2.1 := by decide +kernel
theorem t_AL_ok : ∀ k, k < 3 → parseFieldDescriptor (F_AL k).2.2.1 = some (t_AL k) := by decide +kernel
def R_MD : String := "PortBillsModel"
def F_MD : u_T := fun k => match k with
  | 0 => ("PortBillsModel", "thrown", "I", false)
  | 1 => ("PortBillsModel", "text", "[I", true)
  | 2 => ("PortBillsModel", "signs", "I", false)
  | 3 => ("PortBillsModel", "tariffs", "I", false)
  | 4 => ("PortBillsModel", "told", "[I", true)
  | 5 => ("PortBillsModel", "newTariffs", "I", false)
  | 6 => ("PortBillsModel", "waiting", "I", false)
  | 7 => ("PortBillsModel", "eventCall", "[I", true)
  | 8 => ("PortBillsModel", "eventKind", "[I", true)
  | 9 => ("PortBillsModel", "eventUnits", "[I", true)
  | 10 => ("PortBillsModel", "discounts", "[I", true)
  | 11 => ("PortBillsModel", "discountUp", "[I", true)
  | 12 => ("PortBillsModel", "discountDown", "[I", true)
  | 13 => ("PortBillsModel", "lines", "I", false)
  | 14 => ("PortBillsModel", "lineCall", "[I", true)
  | 15 => ("PortBillsModel", "lineKind", "[I", true)
  | 16 => ("PortBillsModel", "lineUnits", "[I", true)
  | 17 => ("PortBillsModel", "lineCharged", "[I", true)
  | 18 => ("PortBillsModel", "lineCents", "[J", true)
  | 19 => ("PortBillsModel", "corrects", "[I", true)
  | 20 => ("PortBillsModel", "isDisputed", "[Z", true)
  | 21 => ("PortBillsModel", "isFallback", "[Z", true)
  | _ => ("PortBillsModel", "paid", "[J", true)
def t_MD : Nat → FieldType := fun k => match k with
  | 0 => .int
  | 1 => .array .int
  | 2 => .int
  | 3 => .int
  | 4 => .array .int
  | 5 => .int
  | 6 => .int
  | 7 => .array .int
  | 8 => .array .int
  | 9 => .array .int
  | 10 => .array .int
  | 11 => .array .int
  | 12 => .array .int
  | 13 => .int
  | 14 => .array .int
  | 15 => .array .int
  | 16 => .array .int
  | 17 => .array .int
  | 18 => .array .long
  | 19 => .array .int
  | 20 => .array .boolean
  | 21 => .array .boolean
  | _ => .array .long
theorem n_MD : ∀ a, a < 23 → ∀ b, b < 23 → a ≠ b → (F_MD a).2.1 ≠ (F_MD b).2.1 := by decide +kernel
theorem t_MD_ok : ∀ k, k < 23 → parseFieldDescriptor (F_MD k).2.2.1 = some (t_MD k) := by decide +kernel
def classes : List vw_C := [(R_PB, F_PB, 11), (R_TT, F_TT, 5), (R_LN, F_LN, 9), (R_AL, F_AL, 3), (R_MD, F_MD, 23)]
abbrev iPB : Nat := 0
abbrev iTT : Nat := 1
abbrev iLN : Nat := 2
abbrev iAL : Nat := 3
abbrev iMD : Nat := 4
abbrev b_PB_init : ByteArray := prog_1_method_1_code
abbrev y_PB_init : MethodName := ⟨"PortBills", "<init>", "()V"⟩
abbrev b_PB_sign : ByteArray := prog_1_method_2_code
abbrev y_PB_sign : MethodName := ⟨"PortBills", "sign", "(I)Z"⟩
abbrev b_PB_read : ByteArray := prog_1_method_3_code
abbrev y_PB_read : MethodName := ⟨"PortBills", "read", "()I"⟩
abbrev b_PB_tariff : ByteArray := prog_1_method_4_code
abbrev y_PB_tariff : MethodName := ⟨"PortBills", "tariff", "(II)I"⟩
abbrev b_PB_event : ByteArray := prog_1_method_5_code
abbrev y_PB_event : MethodName := ⟨"PortBills", "event", "(III)I"⟩
abbrev b_PB_discount : ByteArray := prog_1_method_6_code
abbrev y_PB_discount : MethodName := ⟨"PortBills", "discount", "(IIII)Z"⟩
abbrev b_PB_bill : ByteArray := prog_1_method_7_code
abbrev y_PB_bill : MethodName := ⟨"PortBills", "bill", "(I)I"⟩
abbrev b_PB_correct : ByteArray := prog_1_method_8_code
abbrev y_PB_correct : MethodName := ⟨"PortBills", "correct", "(IJ)I"⟩
abbrev b_PB_dispute : ByteArray := prog_1_method_9_code
abbrev y_PB_dispute : MethodName := ⟨"PortBills", "dispute", "(IZ)I"⟩
abbrev b_PB_pay : ByteArray := prog_1_method_10_code
abbrev y_PB_pay : MethodName := ⟨"PortBills", "pay", "(IJ)J"⟩
abbrev b_PB_unpaid : ByteArray := prog_1_method_11_code
abbrev y_PB_unpaid : MethodName := ⟨"PortBills", "unpaid", "(I)J"⟩
abbrev b_PB_share : ByteArray := prog_1_method_12_code
abbrev y_PB_share : MethodName := ⟨"PortBills", "share", "(JII)J"⟩
abbrev b_PB_line : ByteArray := prog_1_method_13_code
abbrev y_PB_line : MethodName := ⟨"PortBills", "line", "(II)J"⟩
abbrev b_PB_count : ByteArray := prog_1_method_14_code
abbrev y_PB_count : MethodName := ⟨"PortBills", "count", "(I)I"⟩
abbrev b_PB_isCall : ByteArray := prog_1_method_15_code
abbrev y_PB_isCall : MethodName := ⟨"PortBills", "isCall", "(I)Z"⟩
abbrev b_PB_isKind : ByteArray := prog_1_method_16_code
abbrev y_PB_isKind : MethodName := ⟨"PortBills", "isKind", "(I)Z"⟩
abbrev b_PB_isKey : ByteArray := prog_1_method_17_code
abbrev y_PB_isKey : MethodName := ⟨"PortBills", "isKey", "(I)Z"⟩
abbrev b_PB_isLine : ByteArray := prog_1_method_18_code
abbrev y_PB_isLine : MethodName := ⟨"PortBills", "isLine", "(I)Z"⟩
abbrev b_PB_hasTariff : ByteArray := prog_1_method_19_code
abbrev y_PB_hasTariff : MethodName := ⟨"PortBills", "hasTariff", "(I)Z"⟩
abbrev b_PB_takeOverTariffs : ByteArray := prog_1_method_20_code
abbrev y_PB_takeOverTariffs : MethodName := ⟨"PortBills", "takeOverTariffs", "()V"⟩
abbrev b_PB_kindsThatWait : ByteArray := prog_1_method_21_code
abbrev y_PB_kindsThatWait : MethodName := ⟨"PortBills", "kindsThatWait", "(I)I"⟩
abbrev b_PB_forgetEvents : ByteArray := prog_1_method_22_code
abbrev y_PB_forgetEvents : MethodName := ⟨"PortBills", "forgetEvents", "(I)V"⟩
abbrev b_PB_billedLine : ByteArray := prog_1_method_23_code
abbrev y_PB_billedLine : MethodName := ⟨"PortBills", "billedLine", "(II)LPortBills$Line;"⟩
abbrev b_PB_centsFor : ByteArray := prog_1_method_24_code
abbrev y_PB_centsFor : MethodName := ⟨"PortBills", "centsFor", "(III)J"⟩
abbrev b_PB_owedNow : ByteArray := prog_1_method_25_code
abbrev y_PB_owedNow : MethodName := ⟨"PortBills", "owedNow", "(I)J"⟩
abbrev b_PB_linesOf : ByteArray := prog_1_method_26_code
abbrev y_PB_linesOf : MethodName := ⟨"PortBills", "linesOf", "(I)I"⟩
abbrev b_PB_begunUnits : ByteArray := prog_1_method_27_code
abbrev y_PB_begunUnits : MethodName := ⟨"PortBills", "begunUnits", "(II)I"⟩
abbrev b_PB_roundedHalfUp : ByteArray := prog_1_method_28_code
abbrev y_PB_roundedHalfUp : MethodName := ⟨"PortBills", "roundedHalfUp", "(JJ)J"⟩
abbrev b_PB_quotient : ByteArray := prog_1_method_29_code
abbrev y_PB_quotient : MethodName := ⟨"PortBills", "quotient", "(JJ)J"⟩
abbrev b_MD_init : ByteArray := prog_5_method_1_code
abbrev y_MD_init : MethodName := ⟨"PortBillsModel", "<init>", "()V"⟩
abbrev b_MD_thrown : ByteArray := prog_5_method_2_code
abbrev y_MD_thrown : MethodName := ⟨"PortBillsModel", "thrown", "()I"⟩
abbrev b_MD_fails : ByteArray := prog_5_method_3_code
abbrev y_MD_fails : MethodName := ⟨"PortBillsModel", "fails", "(I)I"⟩
abbrev b_MD_in : ByteArray := prog_5_method_4_code
abbrev y_MD_in : MethodName := ⟨"PortBillsModel", "in", "(JJJ)Z"⟩
abbrev b_MD_isCall : ByteArray := prog_5_method_5_code
abbrev y_MD_isCall : MethodName := ⟨"PortBillsModel", "isCall", "(I)Z"⟩
abbrev b_MD_isKind : ByteArray := prog_5_method_6_code
abbrev y_MD_isKind : MethodName := ⟨"PortBillsModel", "isKind", "(I)Z"⟩
abbrev b_MD_unitOf : ByteArray := prog_5_method_7_code
abbrev y_MD_unitOf : MethodName := ⟨"PortBillsModel", "unitOf", "(I)I"⟩
abbrev b_MD_sign : ByteArray := prog_5_method_8_code
abbrev y_MD_sign : MethodName := ⟨"PortBillsModel", "sign", "(I)Z"⟩
abbrev b_MD_begins : ByteArray := prog_5_method_9_code
abbrev y_MD_begins : MethodName := ⟨"PortBillsModel", "begins", "(I)I"⟩
abbrev b_MD_read : ByteArray := prog_5_method_10_code
abbrev y_MD_read : MethodName := ⟨"PortBillsModel", "read", "()I"⟩
abbrev b_MD_tariff : ByteArray := prog_5_method_11_code
abbrev y_MD_tariff : MethodName := ⟨"PortBillsModel", "tariff", "(II)I"⟩
abbrev b_MD_event : ByteArray := prog_5_method_12_code
abbrev y_MD_event : MethodName := ⟨"PortBillsModel", "event", "(III)I"⟩
abbrev b_MD_discount : ByteArray := prog_5_method_13_code
abbrev y_MD_discount : MethodName := ⟨"PortBillsModel", "discount", "(IIII)Z"⟩
abbrev b_MD_unitsOf : ByteArray := prog_5_method_14_code
abbrev y_MD_unitsOf : MethodName := ⟨"PortBillsModel", "unitsOf", "(II)I"⟩
abbrev b_MD_newLine : ByteArray := prog_5_method_15_code
abbrev y_MD_newLine : MethodName := ⟨"PortBillsModel", "newLine", "(IIIIJI)V"⟩
abbrev b_MD_billKind : ByteArray := prog_5_method_16_code
abbrev y_MD_billKind : MethodName := ⟨"PortBillsModel", "billKind", "(II)V"⟩
abbrev b_MD_takeEvents : ByteArray := prog_5_method_17_code
abbrev y_MD_takeEvents : MethodName := ⟨"PortBillsModel", "takeEvents", "(I)V"⟩
abbrev b_MD_bill : ByteArray := prog_5_method_18_code
abbrev y_MD_bill : MethodName := ⟨"PortBillsModel", "bill", "(I)I"⟩
abbrev b_MD_isLine : ByteArray := prog_5_method_19_code
abbrev y_MD_isLine : MethodName := ⟨"PortBillsModel", "isLine", "(I)Z"⟩
abbrev b_MD_whole : ByteArray := prog_5_method_20_code
abbrev y_MD_whole : MethodName := ⟨"PortBillsModel", "whole", "(I)J"⟩
abbrev b_MD_correct : ByteArray := prog_5_method_21_code
abbrev y_MD_correct : MethodName := ⟨"PortBillsModel", "correct", "(IJ)I"⟩
abbrev b_MD_dispute : ByteArray := prog_5_method_22_code
abbrev y_MD_dispute : MethodName := ⟨"PortBillsModel", "dispute", "(IZ)I"⟩
abbrev b_MD_isOut : ByteArray := prog_5_method_23_code
abbrev y_MD_isOut : MethodName := ⟨"PortBillsModel", "isOut", "(I)Z"⟩
abbrev b_MD_left : ByteArray := prog_5_method_24_code
abbrev y_MD_left : MethodName := ⟨"PortBillsModel", "left", "(I)J"⟩
abbrev b_MD_pay : ByteArray := prog_5_method_25_code
abbrev y_MD_pay : MethodName := ⟨"PortBillsModel", "pay", "(IJ)J"⟩
abbrev b_MD_unpaid : ByteArray := prog_5_method_26_code
abbrev y_MD_unpaid : MethodName := ⟨"PortBillsModel", "unpaid", "(I)J"⟩
abbrev b_MD_share : ByteArray := prog_5_method_27_code
abbrev y_MD_share : MethodName := ⟨"PortBillsModel", "share", "(JII)J"⟩
abbrev b_MD_line : ByteArray := prog_5_method_28_code
abbrev y_MD_line : MethodName := ⟨"PortBillsModel", "line", "(II)J"⟩
abbrev b_MD_count : ByteArray := prog_5_method_29_code
abbrev y_MD_count : MethodName := ⟨"PortBillsModel", "count", "(I)I"⟩
abbrev b_LN_init : ByteArray := prog_2_method_1_code
abbrev y_LN_init : MethodName := ⟨"PortBills$Line", "<init>", "(IIIIJIZ)V"⟩
abbrev b_LN_isCorrection : ByteArray := prog_2_method_2_code
abbrev y_LN_isCorrection : MethodName := ⟨"PortBills$Line", "isCorrection", "()Z"⟩
abbrev b_LN_part : ByteArray := prog_2_method_3_code
abbrev y_LN_part : MethodName := ⟨"PortBills$Line", "part", "(I)J"⟩
abbrev b_TT_init : ByteArray := prog_3_method_1_code
abbrev y_TT_init : MethodName := ⟨"PortBills$TariffText", "<init>", "()V"⟩
abbrev b_TT_takes : ByteArray := prog_3_method_2_code
abbrev y_TT_takes : MethodName := ⟨"PortBills$TariffText", "takes", "(I)Z"⟩
abbrev b_TT_clear : ByteArray := prog_3_method_3_code
abbrev y_TT_clear : MethodName := ⟨"PortBills$TariffText", "clear", "()V"⟩
abbrev b_TT_readRows : ByteArray := prog_3_method_4_code
abbrev y_TT_readRows : MethodName := ⟨"PortBills$TariffText", "readRows", "()I"⟩
abbrev b_TT_readRow : ByteArray := prog_3_method_5_code
abbrev y_TT_readRow : MethodName := ⟨"PortBills$TariffText", "readRow", "()Z"⟩
abbrev b_TT_readNumber : ByteArray := prog_3_method_6_code
abbrev y_TT_readNumber : MethodName := ⟨"PortBills$TariffText", "readNumber", "([III)Z"⟩
abbrev b_TT_passes : ByteArray := prog_3_method_7_code
abbrev y_TT_passes : MethodName := ⟨"PortBills$TariffText", "passes", "(C)Z"⟩
abbrev b_TT_next : ByteArray := prog_3_method_8_code
abbrev y_TT_next : MethodName := ⟨"PortBills$TariffText", "next", "()C"⟩
abbrev b_TT_isDigit : ByteArray := prog_3_method_9_code
abbrev y_TT_isDigit : MethodName := ⟨"PortBills$TariffText", "isDigit", "(C)Z"⟩
abbrev b_LW_tariff : ByteArray := method_3_code
abbrev y_LW_tariff : MethodName := ⟨"PortBillsLaw", "tariff", "(LPortBills;II[J)I"⟩
abbrev b_LW_event : ByteArray := method_4_code
abbrev y_LW_event : MethodName := ⟨"PortBillsLaw", "event", "(LPortBills;III[J)I"⟩
abbrev b_LW_bill : ByteArray := method_5_code
abbrev y_LW_bill : MethodName := ⟨"PortBillsLaw", "bill", "(LPortBills;I[J)I"⟩
abbrev b_LW_correct : ByteArray := method_6_code
abbrev y_LW_correct : MethodName := ⟨"PortBillsLaw", "correct", "(LPortBills;IJ[J)I"⟩
abbrev b_LW_dispute : ByteArray := method_7_code
abbrev y_LW_dispute : MethodName := ⟨"PortBillsLaw", "dispute", "(LPortBills;IZ[J)I"⟩
abbrev b_LW_pay : ByteArray := method_8_code
abbrev y_LW_pay : MethodName := ⟨"PortBillsLaw", "pay", "(LPortBills;IJ[J)I"⟩
abbrev b_LW_unpaid : ByteArray := method_9_code
abbrev y_LW_unpaid : MethodName := ⟨"PortBillsLaw", "unpaid", "(LPortBills;I[J)I"⟩
abbrev b_LW_share : ByteArray := method_10_code
abbrev y_LW_share : MethodName := ⟨"PortBillsLaw", "share", "(LPortBills;JII[J)I"⟩
abbrev b_LW_line : ByteArray := method_11_code
abbrev y_LW_line : MethodName := ⟨"PortBillsLaw", "line", "(LPortBills;II[J)I"⟩
abbrev b_LW_law : ByteArray := code
abbrev y_LW_law : MethodName := ⟨"PortBillsLaw", "law", "([I)Z"⟩
abbrev b_AC_init : ByteArray := prog_19_method_1_code
abbrev y_AC_init : MethodName := ⟨"java/util/AbstractCollection", "<init>", "()V"⟩
abbrev b_AB_init : ByteArray := prog_20_method_1_code
abbrev y_AB_init : MethodName := ⟨"java/util/AbstractList", "<init>", "()V"⟩
abbrev b_AL_init : ByteArray := prog_21_method_2_code
abbrev y_AL_init : MethodName := ⟨"java/util/ArrayList", "<init>", "()V"⟩
abbrev b_AL_add : ByteArray := prog_21_method_25_code
abbrev y_AL_add : MethodName := ⟨"java/util/ArrayList", "add", "(Ljava/lang/Object;)Z"⟩
abbrev b_AL_add2 : ByteArray := prog_21_method_24_code
abbrev y_AL_add2 : MethodName := ⟨"java/util/ArrayList", "add", "(Ljava/lang/Object;[Ljava/lang/Object;I)V"⟩
abbrev b_AL_elementData : ByteArray := prog_21_method_18_code
abbrev y_AL_elementData : MethodName := ⟨"java/util/ArrayList", "elementData", "(I)Ljava/lang/Object;"⟩
abbrev b_AL_get : ByteArray := prog_21_method_20_code
abbrev y_AL_get : MethodName := ⟨"java/util/ArrayList", "get", "(I)Ljava/lang/Object;"⟩
abbrev b_AL_grow : ByteArray := prog_21_method_7_code
abbrev y_AL_grow : MethodName := ⟨"java/util/ArrayList", "grow", "()[Ljava/lang/Object;"⟩
abbrev b_AL_grow2 : ByteArray := prog_21_method_6_code
abbrev y_AL_grow2 : MethodName := ⟨"java/util/ArrayList", "grow", "(I)[Ljava/lang/Object;"⟩
abbrev b_AL_size : ByteArray := prog_21_method_8_code
abbrev y_AL_size : MethodName := ⟨"java/util/ArrayList", "size", "()I"⟩
abbrev b_AR_copyOf : ByteArray := prog_22_method_119_code
abbrev y_AR_copyOf : MethodName := ⟨"java/util/Arrays", "copyOf", "([Ljava/lang/Object;I)[Ljava/lang/Object;"⟩
abbrev b_AR_copyOf2 : ByteArray := prog_22_method_120_code
abbrev y_AR_copyOf2 : MethodName := ⟨"java/util/Arrays", "copyOf", "([Ljava/lang/Object;ILjava/lang/Class;)[Ljava/lang/Object;"⟩
abbrev b_AR_fill : ByteArray := prog_22_method_103_code
abbrev y_AR_fill : MethodName := ⟨"java/util/Arrays", "fill", "([II)V"⟩
abbrev b_OB_checkIndex : ByteArray := prog_25_method_17_code
abbrev y_OB_checkIndex : MethodName := ⟨"java/util/Objects", "checkIndex", "(II)I"⟩
abbrev b_AS_hugeLength : ByteArray := prog_28_method_28_code
abbrev y_AS_hugeLength : MethodName := ⟨"jdk/internal/util/ArraysSupport", "hugeLength", "(II)I"⟩
abbrev b_AS_newLength : ByteArray := prog_28_method_27_code
abbrev y_AS_newLength : MethodName := ⟨"jdk/internal/util/ArraysSupport", "newLength", "(III)I"⟩
abbrev b_PC_checkIndex : ByteArray := prog_29_method_11_code
abbrev y_PC_checkIndex : MethodName := ⟨"jdk/internal/util/Preconditions", "checkIndex", "(IILjava/util/function/BiFunction;)I"⟩
/-- a word of the tables that stays -/
def gw (w : Cond) : Prop := w ∈ lw_tbl ∧ goodWord w = true
/-- a nest mate's word -/
def gn_is : Cond → Bool
  | .fieldLinkNest .. => true
  | .methodLinkNest .. => true
  | _ => false
def gn (w : Cond) : Prop := w ∈ lw_tbl ∧ gn_is w = true
theorem tw_1 {w : Cond} (h : w ∈ tables_1_1) : w ∈ lw_tbl := List.mem_append.mpr (Or.inr (List.mem_append.mpr (Or.inl h)))
theorem tw_2 {w : Cond} (h : w ∈ tables_1_2) : w ∈ lw_tbl := List.mem_append.mpr (Or.inr (List.mem_append.mpr (Or.inr (List.mem_append.mpr (Or.inl h)))))
theorem tw_3 {w : Cond} (h : w ∈ tables_1_3) : w ∈ lw_tbl := List.mem_append.mpr (Or.inr (List.mem_append.mpr (Or.inr (List.mem_append.mpr (Or.inr (List.mem_append.mpr (Or.inl h)))))))
theorem tw_4 {w : Cond} (h : w ∈ tables_1_4) : w ∈ lw_tbl := List.mem_append.mpr (Or.inr (List.mem_append.mpr (Or.inr (List.mem_append.mpr (Or.inr (List.mem_append.mpr (Or.inr h)))))))
theorem tw_s (i : Nat) {w : Cond} {q : MethodName × Nat} (h : lw_privs[i]? = some q) (hq : Cond.selects q.1.cls q.1 q.1 = w) : w ∈ lw_tbl := List.mem_append.mpr (Or.inl (List.mem_map.mpr ⟨q, List.mem_of_getElem? h, hq⟩))
