
def nestW : List Cond := [.methodLinkNest "PairPacker" (45 : Nat) ({ cls := "PairPacker$FormReader", name := "<init>", desc := "()V" } : Jvm.MethodName) "PairPacker", .methodLinkNest "PairPacker" (59 : Nat) ({ cls := "PairPacker$Words", name := "<init>", desc := "()V" } : Jvm.MethodName) "PairPacker", .methodLinkNest "PairPacker" (66 : Nat) ({ cls := "PairPacker$Reading", name := "<init>", desc := "()V" } : Jvm.MethodName) "PairPacker", .methodLinkNest "PairPacker" (83 : Nat) ({ cls := "PairPacker$PairTable", name := "<init>", desc := "()V" } : Jvm.MethodName) "PairPacker", .methodLinkNest "PairPacker" (90 : Nat) ({ cls := "PairPacker$Search", name := "<init>", desc := "()V" } : Jvm.MethodName) "PairPacker", .methodLinkNest "PairPacker$Search" (11 : Nat) ({ cls := "PairPacker$PairTable", name := "<init>", desc := "()V" } : Jvm.MethodName) "PairPacker", .methodLinkNest "PairPacker" (97 : Nat) ({ cls := "PairPacker$Codes", name := "<init>", desc := "()V" } : Jvm.MethodName) "PairPacker", .methodLinkNest "PairPacker$Words" (37 : Nat) ({ cls := "PairPacker", name := "isLetter", desc := "(I)Z" } : Jvm.MethodName) "PairPacker", .methodLinkNest "PairPacker$FormReader" (68 : Nat) ({ cls := "PairPacker", name := "isLetter", desc := "(I)Z" } : Jvm.MethodName) "PairPacker", .methodLinkNest "PairPacker$Packing" (35 : Nat) ({ cls := "PairPacker", name := "isLetter", desc := "(I)Z" } : Jvm.MethodName) "PairPacker"]
/-- a class of vwCl: its place, its words -/
def clsOk (ci : Nat) (C : String) (T : u_T) (N : Nat) (ty : Nat → FieldType) : Prop := vwCl[ci]? = some (C, T, N) ∧ (∀ w ∈ u_ws C T N, w ∈ gw) ∧ (∀ k, k < N → parseFieldDescriptor (T k).2.2.1 = some (ty k)) ∧ (∀ a, a < N → ∀ b, b < N → a ≠ b → (T a).2.1 ≠ (T b).2.1)
/-- what the tables say of a method that is called: code, class, how many arguments -/
def mOk (k : MI) (n : Nat) : Prop := Cond.code k.1 k.2.1 k.2.2.1 k.2.2.2 ∈ gw ∧ Cond.initialized k.1.cls ∈ gw ∧ (k.1.cls ≠ "java/lang/invoke/MethodHandle" ∧ k.1.cls ≠ "java/lang/invoke/VarHandle" ∧ (parseMethodDescriptor k.1.desc).map (fun d => d.parameters.length) = some n) ∧ k.2.2.1 ≤ 40
def vOk (k : MI) (n ci : Nat) : Prop := mOk k n ∧ Cond.instanceMethod k.1 ∈ gw ∧ Cond.selects k.1.cls k.1 k.1 ∈ gw ∧ ∃ q, vwCl[ci]? = some q ∧ q.1 = k.1.cls
def sOk (k : MI) (n : Nat) : Prop := mOk k n ∧ Cond.static k.1 ∈ gw
def iOk (k : MI) (n : Nat) : Prop := mOk k n ∧ Cond.instanceMethod k.1 ∈ gw ∧ k.1.name = "<init>" ∧ k.2.2.2 = none

/-! METHODS: code, room, what the tables say of each; LINKS of the constant pools -/
theorem ini_RX9 : Cond.initialized RX9 ∈ gw := gw_in (List.mem_of_getElem? (i := 1) (by decide +kernel)) (by decide +kernel)
theorem ini_RX2 : Cond.initialized RX2 ∈ gw := gw_in (List.mem_of_getElem? (i := 2) (by decide +kernel)) (by decide +kernel)
theorem ini_RX6 : Cond.initialized RX6 ∈ gw := gw_in (List.mem_of_getElem? (i := 3) (by decide +kernel)) (by decide +kernel)
theorem ini_RX4 : Cond.initialized RX4 ∈ gw := gw_in (List.mem_of_getElem? (i := 4) (by decide +kernel)) (by decide +kernel)
theorem ini_RX1 : Cond.initialized RX1 ∈ gw := gw_in (List.mem_of_getElem? (i := 5) (by decide +kernel)) (by decide +kernel)
theorem ini_RX8 : Cond.initialized RX8 ∈ gw := gw_in (List.mem_of_getElem? (i := 6) (by decide +kernel)) (by decide +kernel)
theorem ini_RX5 : Cond.initialized RX5 ∈ gw := gw_in (List.mem_of_getElem? (i := 7) (by decide +kernel)) (by decide +kernel)
theorem ini_RX3 : Cond.initialized RX3 ∈ gw := gw_in (List.mem_of_getElem? (i := 8) (by decide +kernel)) (by decide +kernel)
theorem ini_RX7 : Cond.initialized RX7 ∈ gw := gw_in (List.mem_of_getElem? (i := 9) (by decide +kernel)) (by decide +kernel)
theorem ini_RX0 : Cond.initialized RX0 ∈ gw := gw_in (List.mem_of_getElem? (i := 10) (by decide +kernel)) (by decide +kernel)
theorem ini_RX10 : Cond.initialized RX10 ∈ gw := gw_in (List.mem_of_getElem? (i := 11) (by decide +kernel)) (by decide +kernel)
theorem ini_RJ9 : Cond.initialized RJ9 ∈ gw := gw_in (List.mem_of_getElem? (i := 12) (by decide +kernel)) (by decide +kernel)
theorem ini_RJ10 : Cond.initialized RJ10 ∈ gw := gw_in (List.mem_of_getElem? (i := 13) (by decide +kernel)) (by decide +kernel)
theorem ini_Sys : Cond.initialized "java/lang/System" ∈ gw := gw_in (List.mem_of_getElem? (i := 13) (by decide +kernel)) (by decide +kernel)
theorem m_X0_init : mOk k_X0_init 0 := ⟨gw_in (List.mem_of_getElem? (i := 203) (by decide +kernel)) (by decide +kernel), ini_RX0, ⟨by decide +kernel, by decide +kernel, by decide +kernel⟩, by decide⟩
theorem i_X0_init : iOk k_X0_init 0 := ⟨m_X0_init, gw_in (List.mem_of_getElem? (i := 202) (by decide +kernel)) (by decide +kernel), rfl, rfl⟩
theorem m_X0_make : mOk k_X0_make 1 := ⟨gw_in (List.mem_of_getElem? (i := 936) (by decide +kernel)) (by decide +kernel), ini_RX0, ⟨by decide +kernel, by decide +kernel, by decide +kernel⟩, by decide⟩
theorem v_X0_make : vOk k_X0_make 1 0 := ⟨m_X0_make, gw_in (List.mem_of_getElem? (i := 934) (by decide +kernel)) (by decide +kernel), gw_in (List.mem_of_getElem? (i := 935) (by decide +kernel)) (by decide +kernel), ⟨_, rfl, rfl⟩⟩
theorem m_X0_lengthOf : mOk k_X0_lengthOf 1 := ⟨gw_in (List.mem_of_getElem? (i := 970) (by decide +kernel)) (by decide +kernel), ini_RX0, ⟨by decide +kernel, by decide +kernel, by decide +kernel⟩, by decide⟩
theorem v_X0_lengthOf : vOk k_X0_lengthOf 1 0 := ⟨m_X0_lengthOf, gw_in (List.mem_of_getElem? (i := 968) (by decide +kernel)) (by decide +kernel), gw_in (List.mem_of_getElem? (i := 969) (by decide +kernel)) (by decide +kernel), ⟨_, rfl, rfl⟩⟩
theorem m_X0_codeOf : mOk k_X0_codeOf 1 := ⟨gw_in (List.mem_of_getElem? (i := 976) (by decide +kernel)) (by decide +kernel), ini_RX0, ⟨by decide +kernel, by decide +kernel, by decide +kernel⟩, by decide⟩
theorem v_X0_codeOf : vOk k_X0_codeOf 1 0 := ⟨m_X0_codeOf, gw_in (List.mem_of_getElem? (i := 974) (by decide +kernel)) (by decide +kernel), gw_in (List.mem_of_getElem? (i := 975) (by decide +kernel)) (by decide +kernel), ⟨_, rfl, rfl⟩⟩
theorem m_X0_signAt : mOk k_X0_signAt 1 := ⟨gw_in (List.mem_of_getElem? (i := 984) (by decide +kernel)) (by decide +kernel), ini_RX0, ⟨by decide +kernel, by decide +kernel, by decide +kernel⟩, by decide⟩
theorem v_X0_signAt : vOk k_X0_signAt 1 0 := ⟨m_X0_signAt, gw_in (List.mem_of_getElem? (i := 982) (by decide +kernel)) (by decide +kernel), gw_in (List.mem_of_getElem? (i := 983) (by decide +kernel)) (by decide +kernel), ⟨_, rfl, rfl⟩⟩
theorem m_X0_allBits : mOk k_X0_allBits 0 := ⟨gw_in (List.mem_of_getElem? (i := 1025) (by decide +kernel)) (by decide +kernel), ini_RX0, ⟨by decide +kernel, by decide +kernel, by decide +kernel⟩, by decide⟩
theorem v_X0_allBits : vOk k_X0_allBits 0 0 := ⟨m_X0_allBits, gw_in (List.mem_of_getElem? (i := 1023) (by decide +kernel)) (by decide +kernel), gw_in (List.mem_of_getElem? (i := 1024) (by decide +kernel)) (by decide +kernel), ⟨_, rfl, rfl⟩⟩
theorem m_X0_weigh : mOk k_X0_weigh 1 := ⟨gw_in (List.mem_of_getElem? (i := 940) (by decide +kernel)) (by decide +kernel), ini_RX0, ⟨by decide +kernel, by decide +kernel, by decide +kernel⟩, by decide⟩
theorem v_X0_weigh : vOk k_X0_weigh 1 0 := ⟨m_X0_weigh, gw_in (List.mem_of_getElem? (i := 939) (by decide +kernel)) (by decide +kernel), gw_sel (List.mem_of_getElem? (i := 39) (by decide +kernel)) (by decide +kernel), ⟨_, rfl, rfl⟩⟩
theorem m_X0_lightestBut : mOk k_X0_lightestBut 1 := ⟨gw_in (List.mem_of_getElem? (i := 949) (by decide +kernel)) (by decide +kernel), ini_RX0, ⟨by decide +kernel, by decide +kernel, by decide +kernel⟩, by decide⟩
theorem v_X0_lightestBut : vOk k_X0_lightestBut 1 0 := ⟨m_X0_lightestBut, gw_in (List.mem_of_getElem? (i := 948) (by decide +kernel)) (by decide +kernel), gw_sel (List.mem_of_getElem? (i := 41) (by decide +kernel)) (by decide +kernel), ⟨_, rfl, rfl⟩⟩
theorem m_X0_putTwoTogether : mOk k_X0_putTwoTogether 0 := ⟨gw_in (List.mem_of_getElem? (i := 945) (by decide +kernel)) (by decide +kernel), ini_RX0, ⟨by decide +kernel, by decide +kernel, by decide +kernel⟩, by decide⟩
theorem v_X0_putTwoTogether : vOk k_X0_putTwoTogether 0 0 := ⟨m_X0_putTwoTogether, gw_in (List.mem_of_getElem? (i := 944) (by decide +kernel)) (by decide +kernel), gw_sel (List.mem_of_getElem? (i := 40) (by decide +kernel)) (by decide +kernel), ⟨_, rfl, rfl⟩⟩
theorem m_X0_lengthenGroup : mOk k_X0_lengthenGroup 1 := ⟨gw_in (List.mem_of_getElem? (i := 953) (by decide +kernel)) (by decide +kernel), ini_RX0, ⟨by decide +kernel, by decide +kernel, by decide +kernel⟩, by decide⟩
theorem v_X0_lengthenGroup : vOk k_X0_lengthenGroup 1 0 := ⟨m_X0_lengthenGroup, gw_in (List.mem_of_getElem? (i := 952) (by decide +kernel)) (by decide +kernel), gw_sel (List.mem_of_getElem? (i := 42) (by decide +kernel)) (by decide +kernel), ⟨_, rfl, rfl⟩⟩
theorem m_X0_putInOrder : mOk k_X0_putInOrder 0 := ⟨gw_in (List.mem_of_getElem? (i := 959) (by decide +kernel)) (by decide +kernel), ini_RX0, ⟨by decide +kernel, by decide +kernel, by decide +kernel⟩, by decide⟩
theorem v_X0_putInOrder : vOk k_X0_putInOrder 0 0 := ⟨m_X0_putInOrder, gw_in (List.mem_of_getElem? (i := 958) (by decide +kernel)) (by decide +kernel), gw_sel (List.mem_of_getElem? (i := 43) (by decide +kernel)) (by decide +kernel), ⟨_, rfl, rfl⟩⟩
theorem m_X0_number : mOk k_X0_number 0 := ⟨gw_in (List.mem_of_getElem? (i := 965) (by decide +kernel)) (by decide +kernel), ini_RX0, ⟨by decide +kernel, by decide +kernel, by decide +kernel⟩, by decide⟩
theorem v_X0_number : vOk k_X0_number 0 0 := ⟨m_X0_number, gw_in (List.mem_of_getElem? (i := 964) (by decide +kernel)) (by decide +kernel), gw_sel (List.mem_of_getElem? (i := 44) (by decide +kernel)) (by decide +kernel), ⟨_, rfl, rfl⟩⟩
theorem m_X1_init : mOk k_X1_init 0 := ⟨gw_in (List.mem_of_getElem? (i := 78) (by decide +kernel)) (by decide +kernel), ini_RX1, ⟨by decide +kernel, by decide +kernel, by decide +kernel⟩, by decide⟩
theorem i_X1_init : iOk k_X1_init 0 := ⟨m_X1_init, gw_in (List.mem_of_getElem? (i := 77) (by decide +kernel)) (by decide +kernel), rfl, rfl⟩
theorem m_X1_readFrom : mOk k_X1_readFrom 2 := ⟨gw_in (List.mem_of_getElem? (i := 447) (by decide +kernel)) (by decide +kernel), ini_RX1, ⟨by decide +kernel, by decide +kernel, by decide +kernel⟩, by decide⟩
theorem v_X1_readFrom : vOk k_X1_readFrom 2 1 := ⟨m_X1_readFrom, gw_in (List.mem_of_getElem? (i := 445) (by decide +kernel)) (by decide +kernel), gw_in (List.mem_of_getElem? (i := 446) (by decide +kernel)) (by decide +kernel), ⟨_, rfl, rfl⟩⟩
theorem m_X1_faultKind : mOk k_X1_faultKind 0 := ⟨gw_in (List.mem_of_getElem? (i := 489) (by decide +kernel)) (by decide +kernel), ini_RX1, ⟨by decide +kernel, by decide +kernel, by decide +kernel⟩, by decide⟩
theorem v_X1_faultKind : vOk k_X1_faultKind 0 1 := ⟨m_X1_faultKind, gw_in (List.mem_of_getElem? (i := 487) (by decide +kernel)) (by decide +kernel), gw_in (List.mem_of_getElem? (i := 488) (by decide +kernel)) (by decide +kernel), ⟨_, rfl, rfl⟩⟩
theorem m_X1_faultPlace : mOk k_X1_faultPlace 0 := ⟨gw_in (List.mem_of_getElem? (i := 493) (by decide +kernel)) (by decide +kernel), ini_RX1, ⟨by decide +kernel, by decide +kernel, by decide +kernel⟩, by decide⟩
theorem v_X1_faultPlace : vOk k_X1_faultPlace 0 1 := ⟨m_X1_faultPlace, gw_in (List.mem_of_getElem? (i := 491) (by decide +kernel)) (by decide +kernel), gw_in (List.mem_of_getElem? (i := 492) (by decide +kernel)) (by decide +kernel), ⟨_, rfl, rfl⟩⟩
theorem m_X1_packing : mOk k_X1_packing 0 := ⟨gw_in (List.mem_of_getElem? (i := 497) (by decide +kernel)) (by decide +kernel), ini_RX1, ⟨by decide +kernel, by decide +kernel, by decide +kernel⟩, by decide⟩
theorem v_X1_packing : vOk k_X1_packing 0 1 := ⟨m_X1_packing, gw_in (List.mem_of_getElem? (i := 495) (by decide +kernel)) (by decide +kernel), gw_in (List.mem_of_getElem? (i := 496) (by decide +kernel)) (by decide +kernel), ⟨_, rfl, rfl⟩⟩
theorem m_X1_start : mOk k_X1_start 2 := ⟨gw_in (List.mem_of_getElem? (i := 451) (by decide +kernel)) (by decide +kernel), ini_RX1, ⟨by decide +kernel, by decide +kernel, by decide +kernel⟩, by decide⟩
theorem v_X1_start : vOk k_X1_start 2 1 := ⟨m_X1_start, gw_in (List.mem_of_getElem? (i := 450) (by decide +kernel)) (by decide +kernel), gw_sel (List.mem_of_getElem? (i := 11) (by decide +kernel)) (by decide +kernel), ⟨_, rfl, rfl⟩⟩
theorem m_X1_isWhole : mOk k_X1_isWhole 0 := ⟨gw_in (List.mem_of_getElem? (i := 466) (by decide +kernel)) (by decide +kernel), ini_RX1, ⟨by decide +kernel, by decide +kernel, by decide +kernel⟩, by decide⟩
theorem v_X1_isWhole : vOk k_X1_isWhole 0 1 := ⟨m_X1_isWhole, gw_in (List.mem_of_getElem? (i := 465) (by decide +kernel)) (by decide +kernel), gw_sel (List.mem_of_getElem? (i := 14) (by decide +kernel)) (by decide +kernel), ⟨_, rfl, rfl⟩⟩
theorem m_X1_nextByte : mOk k_X1_nextByte 0 := ⟨gw_in (List.mem_of_getElem? (i := 457) (by decide +kernel)) (by decide +kernel), ini_RX1, ⟨by decide +kernel, by decide +kernel, by decide +kernel⟩, by decide⟩
theorem v_X1_nextByte : vOk k_X1_nextByte 0 1 := ⟨m_X1_nextByte, gw_in (List.mem_of_getElem? (i := 456) (by decide +kernel)) (by decide +kernel), gw_sel (List.mem_of_getElem? (i := 12) (by decide +kernel)) (by decide +kernel), ⟨_, rfl, rfl⟩⟩
theorem m_X1_blame : mOk k_X1_blame 1 := ⟨gw_in (List.mem_of_getElem? (i := 461) (by decide +kernel)) (by decide +kernel), ini_RX1, ⟨by decide +kernel, by decide +kernel, by decide +kernel⟩, by decide⟩
theorem v_X1_blame : vOk k_X1_blame 1 1 := ⟨m_X1_blame, gw_in (List.mem_of_getElem? (i := 460) (by decide +kernel)) (by decide +kernel), gw_sel (List.mem_of_getElem? (i := 13) (by decide +kernel)) (by decide +kernel), ⟨_, rfl, rfl⟩⟩
theorem m_X1_lettersOf : mOk k_X1_lettersOf 1 := ⟨gw_in (List.mem_of_getElem? (i := 474) (by decide +kernel)) (by decide +kernel), ini_RX1, ⟨by decide +kernel, by decide +kernel, by decide +kernel⟩, by decide⟩
theorem v_X1_lettersOf : vOk k_X1_lettersOf 1 1 := ⟨m_X1_lettersOf, gw_in (List.mem_of_getElem? (i := 473) (by decide +kernel)) (by decide +kernel), gw_sel (List.mem_of_getElem? (i := 16) (by decide +kernel)) (by decide +kernel), ⟨_, rfl, rfl⟩⟩
theorem m_X1_readRule : mOk k_X1_readRule 0 := ⟨gw_in (List.mem_of_getElem? (i := 470) (by decide +kernel)) (by decide +kernel), ini_RX1, ⟨by decide +kernel, by decide +kernel, by decide +kernel⟩, by decide⟩
theorem v_X1_readRule : vOk k_X1_readRule 0 1 := ⟨m_X1_readRule, gw_in (List.mem_of_getElem? (i := 469) (by decide +kernel)) (by decide +kernel), gw_sel (List.mem_of_getElem? (i := 15) (by decide +kernel)) (by decide +kernel), ⟨_, rfl, rfl⟩⟩
theorem m_X1_readSequence : mOk k_X1_readSequence 0 := ⟨gw_in (List.mem_of_getElem? (i := 484) (by decide +kernel)) (by decide +kernel), ini_RX1, ⟨by decide +kernel, by decide +kernel, by decide +kernel⟩, by decide⟩
theorem v_X1_readSequence : vOk k_X1_readSequence 0 1 := ⟨m_X1_readSequence, gw_in (List.mem_of_getElem? (i := 483) (by decide +kernel)) (by decide +kernel), gw_sel (List.mem_of_getElem? (i := 18) (by decide +kernel)) (by decide +kernel), ⟨_, rfl, rfl⟩⟩
theorem m_X1_readRow : mOk k_X1_readRow 2 := ⟨gw_in (List.mem_of_getElem? (i := 479) (by decide +kernel)) (by decide +kernel), ini_RX1, ⟨by decide +kernel, by decide +kernel, by decide +kernel⟩, by decide⟩
theorem v_X1_readRow : vOk k_X1_readRow 2 1 := ⟨m_X1_readRow, gw_in (List.mem_of_getElem? (i := 478) (by decide +kernel)) (by decide +kernel), gw_sel (List.mem_of_getElem? (i := 17) (by decide +kernel)) (by decide +kernel), ⟨_, rfl, rfl⟩⟩
theorem m_X2_init : mOk k_X2_init 0 := ⟨gw_in (List.mem_of_getElem? (i := 26) (by decide +kernel)) (by decide +kernel), ini_RX2, ⟨by decide +kernel, by decide +kernel, by decide +kernel⟩, by decide⟩
theorem i_X2_init : iOk k_X2_init 0 := ⟨m_X2_init, gw_in (List.mem_of_getElem? (i := 25) (by decide +kernel)) (by decide +kernel), rfl, rfl⟩
theorem m_X2_sequence : mOk k_X2_sequence 0 := ⟨gw_in (List.mem_of_getElem? (i := 356) (by decide +kernel)) (by decide +kernel), ini_RX2, ⟨by decide +kernel, by decide +kernel, by decide +kernel⟩, by decide⟩
theorem v_X2_sequence : vOk k_X2_sequence 0 2 := ⟨m_X2_sequence, gw_in (List.mem_of_getElem? (i := 354) (by decide +kernel)) (by decide +kernel), gw_in (List.mem_of_getElem? (i := 355) (by decide +kernel)) (by decide +kernel), ⟨_, rfl, rfl⟩⟩
theorem m_X2_rowOf : mOk k_X2_rowOf 1 := ⟨gw_in (List.mem_of_getElem? (i := 386) (by decide +kernel)) (by decide +kernel), ini_RX2, ⟨by decide +kernel, by decide +kernel, by decide +kernel⟩, by decide⟩
theorem v_X2_rowOf : vOk k_X2_rowOf 1 2 := ⟨m_X2_rowOf, gw_in (List.mem_of_getElem? (i := 384) (by decide +kernel)) (by decide +kernel), gw_in (List.mem_of_getElem? (i := 385) (by decide +kernel)) (by decide +kernel), ⟨_, rfl, rfl⟩⟩
theorem m_X2_isRule : mOk k_X2_isRule 1 := ⟨gw_in (List.mem_of_getElem? (i := 382) (by decide +kernel)) (by decide +kernel), ini_RX2, ⟨by decide +kernel, by decide +kernel, by decide +kernel⟩, by decide⟩
theorem v_X2_isRule : vOk k_X2_isRule 1 2 := ⟨m_X2_isRule, gw_in (List.mem_of_getElem? (i := 380) (by decide +kernel)) (by decide +kernel), gw_in (List.mem_of_getElem? (i := 381) (by decide +kernel)) (by decide +kernel), ⟨_, rfl, rfl⟩⟩
theorem m_X2_has : mOk k_X2_has 1 := ⟨gw_in (List.mem_of_getElem? (i := 601) (by decide +kernel)) (by decide +kernel), ini_RX2, ⟨by decide +kernel, by decide +kernel, by decide +kernel⟩, by decide⟩
theorem v_X2_has : vOk k_X2_has 1 2 := ⟨m_X2_has, gw_in (List.mem_of_getElem? (i := 599) (by decide +kernel)) (by decide +kernel), gw_in (List.mem_of_getElem? (i := 600) (by decide +kernel)) (by decide +kernel), ⟨_, rfl, rfl⟩⟩
theorem m_X2_clear : mOk k_X2_clear 0 := ⟨gw_in (List.mem_of_getElem? (i := 351) (by decide +kernel)) (by decide +kernel), ini_RX2, ⟨by decide +kernel, by decide +kernel, by decide +kernel⟩, by decide⟩
theorem v_X2_clear : vOk k_X2_clear 0 2 := ⟨m_X2_clear, gw_in (List.mem_of_getElem? (i := 349) (by decide +kernel)) (by decide +kernel), gw_in (List.mem_of_getElem? (i := 350) (by decide +kernel)) (by decide +kernel), ⟨_, rfl, rfl⟩⟩
theorem m_X2_take : mOk k_X2_take 1 := ⟨gw_in (List.mem_of_getElem? (i := 335) (by decide +kernel)) (by decide +kernel), ini_RX2, ⟨by decide +kernel, by decide +kernel, by decide +kernel⟩, by decide⟩
theorem v_X2_take : vOk k_X2_take 1 2 := ⟨m_X2_take, gw_in (List.mem_of_getElem? (i := 333) (by decide +kernel)) (by decide +kernel), gw_in (List.mem_of_getElem? (i := 334) (by decide +kernel)) (by decide +kernel), ⟨_, rfl, rfl⟩⟩
theorem m_X2_ruleCount : mOk k_X2_ruleCount 0 := ⟨gw_in (List.mem_of_getElem? (i := 843) (by decide +kernel)) (by decide +kernel), ini_RX2, ⟨by decide +kernel, by decide +kernel, by decide +kernel⟩, by decide⟩
theorem v_X2_ruleCount : vOk k_X2_ruleCount 0 2 := ⟨m_X2_ruleCount, gw_in (List.mem_of_getElem? (i := 841) (by decide +kernel)) (by decide +kernel), gw_in (List.mem_of_getElem? (i := 842) (by decide +kernel)) (by decide +kernel), ⟨_, rfl, rfl⟩⟩
theorem m_X2_size : mOk k_X2_size 0 := ⟨gw_in (List.mem_of_getElem? (i := 643) (by decide +kernel)) (by decide +kernel), ini_RX2, ⟨by decide +kernel, by decide +kernel, by decide +kernel⟩, by decide⟩
theorem v_X2_size : vOk k_X2_size 0 2 := ⟨m_X2_size, gw_in (List.mem_of_getElem? (i := 641) (by decide +kernel)) (by decide +kernel), gw_in (List.mem_of_getElem? (i := 642) (by decide +kernel)) (by decide +kernel), ⟨_, rfl, rfl⟩⟩
theorem m_X2_usesOf : mOk k_X2_usesOf 1 := ⟨gw_in (List.mem_of_getElem? (i := 655) (by decide +kernel)) (by decide +kernel), ini_RX2, ⟨by decide +kernel, by decide +kernel, by decide +kernel⟩, by decide⟩
theorem v_X2_usesOf : vOk k_X2_usesOf 1 2 := ⟨m_X2_usesOf, gw_in (List.mem_of_getElem? (i := 653) (by decide +kernel)) (by decide +kernel), gw_in (List.mem_of_getElem? (i := 654) (by decide +kernel)) (by decide +kernel), ⟨_, rfl, rfl⟩⟩
theorem m_X2_freeSign : mOk k_X2_freeSign 0 := ⟨gw_in (List.mem_of_getElem? (i := 575) (by decide +kernel)) (by decide +kernel), ini_RX2, ⟨by decide +kernel, by decide +kernel, by decide +kernel⟩, by decide⟩
theorem v_X2_freeSign : vOk k_X2_freeSign 0 2 := ⟨m_X2_freeSign, gw_in (List.mem_of_getElem? (i := 573) (by decide +kernel)) (by decide +kernel), gw_in (List.mem_of_getElem? (i := 574) (by decide +kernel)) (by decide +kernel), ⟨_, rfl, rfl⟩⟩
theorem m_X2_ruleOf : mOk k_X2_ruleOf 2 := ⟨gw_in (List.mem_of_getElem? (i := 567) (by decide +kernel)) (by decide +kernel), ini_RX2, ⟨by decide +kernel, by decide +kernel, by decide +kernel⟩, by decide⟩
theorem v_X2_ruleOf : vOk k_X2_ruleOf 2 2 := ⟨m_X2_ruleOf, gw_in (List.mem_of_getElem? (i := 565) (by decide +kernel)) (by decide +kernel), gw_in (List.mem_of_getElem? (i := 566) (by decide +kernel)) (by decide +kernel), ⟨_, rfl, rfl⟩⟩
theorem m_X2_signFor : mOk k_X2_signFor 2 := ⟨gw_in (List.mem_of_getElem? (i := 563) (by decide +kernel)) (by decide +kernel), ini_RX2, ⟨by decide +kernel, by decide +kernel, by decide +kernel⟩, by decide⟩
theorem v_X2_signFor : vOk k_X2_signFor 2 2 := ⟨m_X2_signFor, gw_in (List.mem_of_getElem? (i := 561) (by decide +kernel)) (by decide +kernel), gw_in (List.mem_of_getElem? (i := 562) (by decide +kernel)) (by decide +kernel), ⟨_, rfl, rfl⟩⟩
theorem m_X2_joinPair : mOk k_X2_joinPair 2 := ⟨gw_in (List.mem_of_getElem? (i := 579) (by decide +kernel)) (by decide +kernel), ini_RX2, ⟨by decide +kernel, by decide +kernel, by decide +kernel⟩, by decide⟩
theorem v_X2_joinPair : vOk k_X2_joinPair 2 2 := ⟨m_X2_joinPair, gw_in (List.mem_of_getElem? (i := 577) (by decide +kernel)) (by decide +kernel), gw_in (List.mem_of_getElem? (i := 578) (by decide +kernel)) (by decide +kernel), ⟨_, rfl, rfl⟩⟩
theorem m_X2_canGiveUp : mOk k_X2_canGiveUp 1 := ⟨gw_in (List.mem_of_getElem? (i := 616) (by decide +kernel)) (by decide +kernel), ini_RX2, ⟨by decide +kernel, by decide +kernel, by decide +kernel⟩, by decide⟩
theorem v_X2_canGiveUp : vOk k_X2_canGiveUp 1 2 := ⟨m_X2_canGiveUp, gw_in (List.mem_of_getElem? (i := 614) (by decide +kernel)) (by decide +kernel), gw_in (List.mem_of_getElem? (i := 615) (by decide +kernel)) (by decide +kernel), ⟨_, rfl, rfl⟩⟩
theorem m_X2_giveUp : mOk k_X2_giveUp 1 := ⟨gw_in (List.mem_of_getElem? (i := 624) (by decide +kernel)) (by decide +kernel), ini_RX2, ⟨by decide +kernel, by decide +kernel, by decide +kernel⟩, by decide⟩
theorem v_X2_giveUp : vOk k_X2_giveUp 1 2 := ⟨m_X2_giveUp, gw_in (List.mem_of_getElem? (i := 622) (by decide +kernel)) (by decide +kernel), gw_in (List.mem_of_getElem? (i := 623) (by decide +kernel)) (by decide +kernel), ⟨_, rfl, rfl⟩⟩
theorem m_X2_leastIdle : mOk k_X2_leastIdle 0 := ⟨gw_in (List.mem_of_getElem? (i := 651) (by decide +kernel)) (by decide +kernel), ini_RX2, ⟨by decide +kernel, by decide +kernel, by decide +kernel⟩, by decide⟩
theorem v_X2_leastIdle : vOk k_X2_leastIdle 0 2 := ⟨m_X2_leastIdle, gw_in (List.mem_of_getElem? (i := 649) (by decide +kernel)) (by decide +kernel), gw_in (List.mem_of_getElem? (i := 650) (by decide +kernel)) (by decide +kernel), ⟨_, rfl, rfl⟩⟩
theorem m_X2_open : mOk k_X2_open 2 := ⟨gw_in (List.mem_of_getElem? (i := 676) (by decide +kernel)) (by decide +kernel), ini_RX2, ⟨by decide +kernel, by decide +kernel, by decide +kernel⟩, by decide⟩
theorem v_X2_open : vOk k_X2_open 2 2 := ⟨m_X2_open, gw_in (List.mem_of_getElem? (i := 674) (by decide +kernel)) (by decide +kernel), gw_in (List.mem_of_getElem? (i := 675) (by decide +kernel)) (by decide +kernel), ⟨_, rfl, rfl⟩⟩
theorem m_X3_init : mOk k_X3_init 0 := ⟨gw_in (List.mem_of_getElem? (i := 165) (by decide +kernel)) (by decide +kernel), ini_RX3, ⟨by decide +kernel, by decide +kernel, by decide +kernel⟩, by decide⟩
theorem i_X3_init : iOk k_X3_init 0 := ⟨m_X3_init, gw_in (List.mem_of_getElem? (i := 164) (by decide +kernel)) (by decide +kernel), rfl, rfl⟩
theorem m_X3_pairOf : mOk k_X3_pairOf 2 := ⟨gw_in (List.mem_of_getElem? (i := 528) (by decide +kernel)) (by decide +kernel), ini_RX3, ⟨by decide +kernel, by decide +kernel, by decide +kernel⟩, by decide⟩
theorem s_X3_pairOf : sOk k_X3_pairOf 2 := ⟨m_X3_pairOf, gw_in (List.mem_of_getElem? (i := 527) (by decide +kernel)) (by decide +kernel)⟩
theorem m_X3_leftOf : mOk k_X3_leftOf 1 := ⟨gw_in (List.mem_of_getElem? (i := 552) (by decide +kernel)) (by decide +kernel), ini_RX3, ⟨by decide +kernel, by decide +kernel, by decide +kernel⟩, by decide⟩
theorem s_X3_leftOf : sOk k_X3_leftOf 1 := ⟨m_X3_leftOf, gw_in (List.mem_of_getElem? (i := 551) (by decide +kernel)) (by decide +kernel)⟩
theorem m_X3_rightOf : mOk k_X3_rightOf 1 := ⟨gw_in (List.mem_of_getElem? (i := 555) (by decide +kernel)) (by decide +kernel), ini_RX3, ⟨by decide +kernel, by decide +kernel, by decide +kernel⟩, by decide⟩
theorem s_X3_rightOf : sOk k_X3_rightOf 1 := ⟨m_X3_rightOf, gw_in (List.mem_of_getElem? (i := 554) (by decide +kernel)) (by decide +kernel)⟩
theorem m_X3_tally : mOk k_X3_tally 1 := ⟨gw_in (List.mem_of_getElem? (i := 518) (by decide +kernel)) (by decide +kernel), ini_RX3, ⟨by decide +kernel, by decide +kernel, by decide +kernel⟩, by decide⟩
theorem v_X3_tally : vOk k_X3_tally 1 3 := ⟨m_X3_tally, gw_in (List.mem_of_getElem? (i := 516) (by decide +kernel)) (by decide +kernel), gw_in (List.mem_of_getElem? (i := 517) (by decide +kernel)) (by decide +kernel), ⟨_, rfl, rfl⟩⟩
theorem m_X3_kinds : mOk k_X3_kinds 0 := ⟨gw_in (List.mem_of_getElem? (i := 861) (by decide +kernel)) (by decide +kernel), ini_RX3, ⟨by decide +kernel, by decide +kernel, by decide +kernel⟩, by decide⟩
theorem v_X3_kinds : vOk k_X3_kinds 0 3 := ⟨m_X3_kinds, gw_in (List.mem_of_getElem? (i := 859) (by decide +kernel)) (by decide +kernel), gw_in (List.mem_of_getElem? (i := 860) (by decide +kernel)) (by decide +kernel), ⟨_, rfl, rfl⟩⟩
theorem m_X3_pairAt : mOk k_X3_pairAt 1 := ⟨gw_in (List.mem_of_getElem? (i := 865) (by decide +kernel)) (by decide +kernel), ini_RX3, ⟨by decide +kernel, by decide +kernel, by decide +kernel⟩, by decide⟩
theorem v_X3_pairAt : vOk k_X3_pairAt 1 3 := ⟨m_X3_pairAt, gw_in (List.mem_of_getElem? (i := 863) (by decide +kernel)) (by decide +kernel), gw_in (List.mem_of_getElem? (i := 864) (by decide +kernel)) (by decide +kernel), ⟨_, rfl, rfl⟩⟩
theorem m_X3_countOf : mOk k_X3_countOf 2 := ⟨gw_in (List.mem_of_getElem? (i := 607) (by decide +kernel)) (by decide +kernel), ini_RX3, ⟨by decide +kernel, by decide +kernel, by decide +kernel⟩, by decide⟩
theorem v_X3_countOf : vOk k_X3_countOf 2 3 := ⟨m_X3_countOf, gw_in (List.mem_of_getElem? (i := 605) (by decide +kernel)) (by decide +kernel), gw_in (List.mem_of_getElem? (i := 606) (by decide +kernel)) (by decide +kernel), ⟨_, rfl, rfl⟩⟩
theorem m_X3_countOfPair : mOk k_X3_countOfPair 1 := ⟨gw_in (List.mem_of_getElem? (i := 545) (by decide +kernel)) (by decide +kernel), ini_RX3, ⟨by decide +kernel, by decide +kernel, by decide +kernel⟩, by decide⟩
theorem v_X3_countOfPair : vOk k_X3_countOfPair 1 3 := ⟨m_X3_countOfPair, gw_in (List.mem_of_getElem? (i := 543) (by decide +kernel)) (by decide +kernel), gw_in (List.mem_of_getElem? (i := 544) (by decide +kernel)) (by decide +kernel), ⟨_, rfl, rfl⟩⟩
theorem m_X3_ranked : mOk k_X3_ranked 1 := ⟨gw_in (List.mem_of_getElem? (i := 537) (by decide +kernel)) (by decide +kernel), ini_RX3, ⟨by decide +kernel, by decide +kernel, by decide +kernel⟩, by decide⟩
theorem v_X3_ranked : vOk k_X3_ranked 1 3 := ⟨m_X3_ranked, gw_in (List.mem_of_getElem? (i := 535) (by decide +kernel)) (by decide +kernel), gw_in (List.mem_of_getElem? (i := 536) (by decide +kernel)) (by decide +kernel), ⟨_, rfl, rfl⟩⟩
theorem m_X3_nextBehind : mOk k_X3_nextBehind 1 := ⟨gw_in (List.mem_of_getElem? (i := 541) (by decide +kernel)) (by decide +kernel), ini_RX3, ⟨by decide +kernel, by decide +kernel, by decide +kernel⟩, by decide⟩
theorem v_X3_nextBehind : vOk k_X3_nextBehind 1 3 := ⟨m_X3_nextBehind, gw_in (List.mem_of_getElem? (i := 540) (by decide +kernel)) (by decide +kernel), gw_sel (List.mem_of_getElem? (i := 22) (by decide +kernel)) (by decide +kernel), ⟨_, rfl, rfl⟩⟩
theorem m_X3_isAhead : mOk k_X3_isAhead 2 := ⟨gw_in (List.mem_of_getElem? (i := 549) (by decide +kernel)) (by decide +kernel), ini_RX3, ⟨by decide +kernel, by decide +kernel, by decide +kernel⟩, by decide⟩
theorem v_X3_isAhead : vOk k_X3_isAhead 2 3 := ⟨m_X3_isAhead, gw_in (List.mem_of_getElem? (i := 548) (by decide +kernel)) (by decide +kernel), gw_sel (List.mem_of_getElem? (i := 23) (by decide +kernel)) (by decide +kernel), ⟨_, rfl, rfl⟩⟩
theorem m_X3_addOne : mOk k_X3_addOne 1 := ⟨gw_in (List.mem_of_getElem? (i := 532) (by decide +kernel)) (by decide +kernel), ini_RX3, ⟨by decide +kernel, by decide +kernel, by decide +kernel⟩, by decide⟩
theorem v_X3_addOne : vOk k_X3_addOne 1 3 := ⟨m_X3_addOne, gw_in (List.mem_of_getElem? (i := 531) (by decide +kernel)) (by decide +kernel), gw_sel (List.mem_of_getElem? (i := 21) (by decide +kernel)) (by decide +kernel), ⟨_, rfl, rfl⟩⟩
theorem m_X3_forget : mOk k_X3_forget 0 := ⟨gw_in (List.mem_of_getElem? (i := 522) (by decide +kernel)) (by decide +kernel), ini_RX3, ⟨by decide +kernel, by decide +kernel, by decide +kernel⟩, by decide⟩
theorem v_X3_forget : vOk k_X3_forget 0 3 := ⟨m_X3_forget, gw_in (List.mem_of_getElem? (i := 521) (by decide +kernel)) (by decide +kernel), gw_sel (List.mem_of_getElem? (i := 20) (by decide +kernel)) (by decide +kernel), ⟨_, rfl, rfl⟩⟩
theorem m_X4_init : mOk k_X4_init 0 := ⟨gw_in (List.mem_of_getElem? (i := 57) (by decide +kernel)) (by decide +kernel), ini_RX4, ⟨by decide +kernel, by decide +kernel, by decide +kernel⟩, by decide⟩
theorem i_X4_init : iOk k_X4_init 0 := ⟨m_X4_init, gw_in (List.mem_of_getElem? (i := 56) (by decide +kernel)) (by decide +kernel), rfl, rfl⟩
theorem m_X4_size : mOk k_X4_size 0 := ⟨gw_in (List.mem_of_getElem? (i := 992) (by decide +kernel)) (by decide +kernel), ini_RX4, ⟨by decide +kernel, by decide +kernel, by decide +kernel⟩, by decide⟩
theorem v_X4_size : vOk k_X4_size 0 4 := ⟨m_X4_size, gw_in (List.mem_of_getElem? (i := 990) (by decide +kernel)) (by decide +kernel), gw_in (List.mem_of_getElem? (i := 991) (by decide +kernel)) (by decide +kernel), ⟨_, rfl, rfl⟩⟩
theorem m_X4_forget : mOk k_X4_forget 0 := ⟨gw_in (List.mem_of_getElem? (i := 1009) (by decide +kernel)) (by decide +kernel), ini_RX4, ⟨by decide +kernel, by decide +kernel, by decide +kernel⟩, by decide⟩
theorem v_X4_forget : vOk k_X4_forget 0 4 := ⟨m_X4_forget, gw_in (List.mem_of_getElem? (i := 1007) (by decide +kernel)) (by decide +kernel), gw_in (List.mem_of_getElem? (i := 1008) (by decide +kernel)) (by decide +kernel), ⟨_, rfl, rfl⟩⟩
theorem m_X4_keep : mOk k_X4_keep 1 := ⟨gw_in (List.mem_of_getElem? (i := 331) (by decide +kernel)) (by decide +kernel), ini_RX4, ⟨by decide +kernel, by decide +kernel, by decide +kernel⟩, by decide⟩
theorem v_X4_keep : vOk k_X4_keep 1 4 := ⟨m_X4_keep, gw_in (List.mem_of_getElem? (i := 329) (by decide +kernel)) (by decide +kernel), gw_in (List.mem_of_getElem? (i := 330) (by decide +kernel)) (by decide +kernel), ⟨_, rfl, rfl⟩⟩
theorem m_X4_goBack : mOk k_X4_goBack 2 := ⟨gw_in (List.mem_of_getElem? (i := 996) (by decide +kernel)) (by decide +kernel), ini_RX4, ⟨by decide +kernel, by decide +kernel, by decide +kernel⟩, by decide⟩
theorem v_X4_goBack : vOk k_X4_goBack 2 4 := ⟨m_X4_goBack, gw_in (List.mem_of_getElem? (i := 994) (by decide +kernel)) (by decide +kernel), gw_in (List.mem_of_getElem? (i := 995) (by decide +kernel)) (by decide +kernel), ⟨_, rfl, rfl⟩⟩
theorem m_X5_init : mOk k_X5_init 0 := ⟨gw_in (List.mem_of_getElem? (i := 135) (by decide +kernel)) (by decide +kernel), ini_RX5, ⟨by decide +kernel, by decide +kernel, by decide +kernel⟩, by decide⟩
theorem i_X5_init : iOk k_X5_init 0 := ⟨m_X5_init, gw_in (List.mem_of_getElem? (i := 134) (by decide +kernel)) (by decide +kernel), rfl, rfl⟩
theorem m_X5_readRow : mOk k_X5_readRow 3 := ⟨gw_in (List.mem_of_getElem? (i := 414) (by decide +kernel)) (by decide +kernel), ini_RX5, ⟨by decide +kernel, by decide +kernel, by decide +kernel⟩, by decide⟩
theorem v_X5_readRow : vOk k_X5_readRow 3 5 := ⟨m_X5_readRow, gw_in (List.mem_of_getElem? (i := 412) (by decide +kernel)) (by decide +kernel), gw_in (List.mem_of_getElem? (i := 413) (by decide +kernel)) (by decide +kernel), ⟨_, rfl, rfl⟩⟩
theorem m_X5_size : mOk k_X5_size 0 := ⟨gw_in (List.mem_of_getElem? (i := 506) (by decide +kernel)) (by decide +kernel), ini_RX5, ⟨by decide +kernel, by decide +kernel, by decide +kernel⟩, by decide⟩
theorem v_X5_size : vOk k_X5_size 0 5 := ⟨m_X5_size, gw_in (List.mem_of_getElem? (i := 504) (by decide +kernel)) (by decide +kernel), gw_in (List.mem_of_getElem? (i := 505) (by decide +kernel)) (by decide +kernel), ⟨_, rfl, rfl⟩⟩
theorem m_X5_hasPlace : mOk k_X5_hasPlace 1 := ⟨gw_in (List.mem_of_getElem? (i := 672) (by decide +kernel)) (by decide +kernel), ini_RX5, ⟨by decide +kernel, by decide +kernel, by decide +kernel⟩, by decide⟩
theorem v_X5_hasPlace : vOk k_X5_hasPlace 1 5 := ⟨m_X5_hasPlace, gw_in (List.mem_of_getElem? (i := 670) (by decide +kernel)) (by decide +kernel), gw_in (List.mem_of_getElem? (i := 671) (by decide +kernel)) (by decide +kernel), ⟨_, rfl, rfl⟩⟩
theorem m_X5_letterAt : mOk k_X5_letterAt 1 := ⟨gw_in (List.mem_of_getElem? (i := 664) (by decide +kernel)) (by decide +kernel), ini_RX5, ⟨by decide +kernel, by decide +kernel, by decide +kernel⟩, by decide⟩
theorem v_X5_letterAt : vOk k_X5_letterAt 1 5 := ⟨m_X5_letterAt, gw_in (List.mem_of_getElem? (i := 662) (by decide +kernel)) (by decide +kernel), gw_in (List.mem_of_getElem? (i := 663) (by decide +kernel)) (by decide +kernel), ⟨_, rfl, rfl⟩⟩
theorem m_X5_homeAt : mOk k_X5_homeAt 1 := ⟨gw_in (List.mem_of_getElem? (i := 750) (by decide +kernel)) (by decide +kernel), ini_RX5, ⟨by decide +kernel, by decide +kernel, by decide +kernel⟩, by decide⟩
theorem v_X5_homeAt : vOk k_X5_homeAt 1 5 := ⟨m_X5_homeAt, gw_in (List.mem_of_getElem? (i := 748) (by decide +kernel)) (by decide +kernel), gw_in (List.mem_of_getElem? (i := 749) (by decide +kernel)) (by decide +kernel), ⟨_, rfl, rfl⟩⟩
theorem m_X5_beginAt : mOk k_X5_beginAt 1 := ⟨gw_in (List.mem_of_getElem? (i := 754) (by decide +kernel)) (by decide +kernel), ini_RX5, ⟨by decide +kernel, by decide +kernel, by decide +kernel⟩, by decide⟩
theorem v_X5_beginAt : vOk k_X5_beginAt 1 5 := ⟨m_X5_beginAt, gw_in (List.mem_of_getElem? (i := 752) (by decide +kernel)) (by decide +kernel), gw_in (List.mem_of_getElem? (i := 753) (by decide +kernel)) (by decide +kernel), ⟨_, rfl, rfl⟩⟩
theorem m_X5_depthAt : mOk k_X5_depthAt 1 := ⟨gw_in (List.mem_of_getElem? (i := 758) (by decide +kernel)) (by decide +kernel), ini_RX5, ⟨by decide +kernel, by decide +kernel, by decide +kernel⟩, by decide⟩
theorem v_X5_depthAt : vOk k_X5_depthAt 1 5 := ⟨m_X5_depthAt, gw_in (List.mem_of_getElem? (i := 756) (by decide +kernel)) (by decide +kernel), gw_in (List.mem_of_getElem? (i := 757) (by decide +kernel)) (by decide +kernel), ⟨_, rfl, rfl⟩⟩
theorem m_X5_depthSum : mOk k_X5_depthSum 0 := ⟨gw_in (List.mem_of_getElem? (i := 903) (by decide +kernel)) (by decide +kernel), ini_RX5, ⟨by decide +kernel, by decide +kernel, by decide +kernel⟩, by decide⟩
theorem v_X5_depthSum : vOk k_X5_depthSum 0 5 := ⟨m_X5_depthSum, gw_in (List.mem_of_getElem? (i := 901) (by decide +kernel)) (by decide +kernel), gw_in (List.mem_of_getElem? (i := 902) (by decide +kernel)) (by decide +kernel), ⟨_, rfl, rfl⟩⟩
theorem m_X5_alikeFrom : mOk k_X5_alikeFrom 2 := ⟨gw_in (List.mem_of_getElem? (i := 779) (by decide +kernel)) (by decide +kernel), ini_RX5, ⟨by decide +kernel, by decide +kernel, by decide +kernel⟩, by decide⟩
theorem v_X5_alikeFrom : vOk k_X5_alikeFrom 2 5 := ⟨m_X5_alikeFrom, gw_in (List.mem_of_getElem? (i := 777) (by decide +kernel)) (by decide +kernel), gw_in (List.mem_of_getElem? (i := 778) (by decide +kernel)) (by decide +kernel), ⟨_, rfl, rfl⟩⟩
theorem m_X5_seekTwice : mOk k_X5_seekTwice 0 := ⟨gw_in (List.mem_of_getElem? (i := 797) (by decide +kernel)) (by decide +kernel), ini_RX5, ⟨by decide +kernel, by decide +kernel, by decide +kernel⟩, by decide⟩
theorem v_X5_seekTwice : vOk k_X5_seekTwice 0 5 := ⟨m_X5_seekTwice, gw_in (List.mem_of_getElem? (i := 795) (by decide +kernel)) (by decide +kernel), gw_in (List.mem_of_getElem? (i := 796) (by decide +kernel)) (by decide +kernel), ⟨_, rfl, rfl⟩⟩
theorem m_X5_longestTwice : mOk k_X5_longestTwice 0 := ⟨gw_in (List.mem_of_getElem? (i := 801) (by decide +kernel)) (by decide +kernel), ini_RX5, ⟨by decide +kernel, by decide +kernel, by decide +kernel⟩, by decide⟩
theorem v_X5_longestTwice : vOk k_X5_longestTwice 0 5 := ⟨m_X5_longestTwice, gw_in (List.mem_of_getElem? (i := 799) (by decide +kernel)) (by decide +kernel), gw_in (List.mem_of_getElem? (i := 800) (by decide +kernel)) (by decide +kernel), ⟨_, rfl, rfl⟩⟩
theorem m_X5_twiceAt : mOk k_X5_twiceAt 0 := ⟨gw_in (List.mem_of_getElem? (i := 809) (by decide +kernel)) (by decide +kernel), ini_RX5, ⟨by decide +kernel, by decide +kernel, by decide +kernel⟩, by decide⟩
theorem v_X5_twiceAt : vOk k_X5_twiceAt 0 5 := ⟨m_X5_twiceAt, gw_in (List.mem_of_getElem? (i := 807) (by decide +kernel)) (by decide +kernel), gw_in (List.mem_of_getElem? (i := 808) (by decide +kernel)) (by decide +kernel), ⟨_, rfl, rfl⟩⟩
theorem m_X5_hitsOf : mOk k_X5_hitsOf 1 := ⟨gw_in (List.mem_of_getElem? (i := 435) (by decide +kernel)) (by decide +kernel), ini_RX5, ⟨by decide +kernel, by decide +kernel, by decide +kernel⟩, by decide⟩
theorem v_X5_hitsOf : vOk k_X5_hitsOf 1 5 := ⟨m_X5_hitsOf, gw_in (List.mem_of_getElem? (i := 433) (by decide +kernel)) (by decide +kernel), gw_in (List.mem_of_getElem? (i := 434) (by decide +kernel)) (by decide +kernel), ⟨_, rfl, rfl⟩⟩
theorem m_X5_crossingsOf : mOk k_X5_crossingsOf 1 := ⟨gw_in (List.mem_of_getElem? (i := 825) (by decide +kernel)) (by decide +kernel), ini_RX5, ⟨by decide +kernel, by decide +kernel, by decide +kernel⟩, by decide⟩
theorem v_X5_crossingsOf : vOk k_X5_crossingsOf 1 5 := ⟨m_X5_crossingsOf, gw_in (List.mem_of_getElem? (i := 823) (by decide +kernel)) (by decide +kernel), gw_in (List.mem_of_getElem? (i := 824) (by decide +kernel)) (by decide +kernel), ⟨_, rfl, rfl⟩⟩
theorem m_X5_hitAt : mOk k_X5_hitAt 2 := ⟨gw_in (List.mem_of_getElem? (i := 817) (by decide +kernel)) (by decide +kernel), ini_RX5, ⟨by decide +kernel, by decide +kernel, by decide +kernel⟩, by decide⟩
theorem v_X5_hitAt : vOk k_X5_hitAt 2 5 := ⟨m_X5_hitAt, gw_in (List.mem_of_getElem? (i := 815) (by decide +kernel)) (by decide +kernel), gw_in (List.mem_of_getElem? (i := 816) (by decide +kernel)) (by decide +kernel), ⟨_, rfl, rfl⟩⟩
theorem m_X5_isHit : mOk k_X5_isHit 2 := ⟨gw_in (List.mem_of_getElem? (i := 439) (by decide +kernel)) (by decide +kernel), ini_RX5, ⟨by decide +kernel, by decide +kernel, by decide +kernel⟩, by decide⟩
theorem v_X5_isHit : vOk k_X5_isHit 2 5 := ⟨m_X5_isHit, gw_in (List.mem_of_getElem? (i := 438) (by decide +kernel)) (by decide +kernel), gw_sel (List.mem_of_getElem? (i := 10) (by decide +kernel)) (by decide +kernel), ⟨_, rfl, rfl⟩⟩
theorem m_X6_init : mOk k_X6_init 1 := ⟨gw_in (List.mem_of_getElem? (i := 32) (by decide +kernel)) (by decide +kernel), ini_RX6, ⟨by decide +kernel, by decide +kernel, by decide +kernel⟩, by decide⟩
theorem i_X6_init : iOk k_X6_init 1 := ⟨m_X6_init, gw_in (List.mem_of_getElem? (i := 31) (by decide +kernel)) (by decide +kernel), rfl, rfl⟩
theorem m_X6_size : mOk k_X6_size 0 := ⟨gw_in (List.mem_of_getElem? (i := 288) (by decide +kernel)) (by decide +kernel), ini_RX6, ⟨by decide +kernel, by decide +kernel, by decide +kernel⟩, by decide⟩
theorem v_X6_size : vOk k_X6_size 0 6 := ⟨m_X6_size, gw_in (List.mem_of_getElem? (i := 286) (by decide +kernel)) (by decide +kernel), gw_in (List.mem_of_getElem? (i := 287) (by decide +kernel)) (by decide +kernel), ⟨_, rfl, rfl⟩⟩
theorem m_X6_get : mOk k_X6_get 1 := ⟨gw_in (List.mem_of_getElem? (i := 320) (by decide +kernel)) (by decide +kernel), ini_RX6, ⟨by decide +kernel, by decide +kernel, by decide +kernel⟩, by decide⟩
theorem v_X6_get : vOk k_X6_get 1 6 := ⟨m_X6_get, gw_in (List.mem_of_getElem? (i := 318) (by decide +kernel)) (by decide +kernel), gw_in (List.mem_of_getElem? (i := 319) (by decide +kernel)) (by decide +kernel), ⟨_, rfl, rfl⟩⟩
theorem m_X6_set : mOk k_X6_set 2 := ⟨gw_in (List.mem_of_getElem? (i := 683) (by decide +kernel)) (by decide +kernel), ini_RX6, ⟨by decide +kernel, by decide +kernel, by decide +kernel⟩, by decide⟩
theorem v_X6_set : vOk k_X6_set 2 6 := ⟨m_X6_set, gw_in (List.mem_of_getElem? (i := 681) (by decide +kernel)) (by decide +kernel), gw_in (List.mem_of_getElem? (i := 682) (by decide +kernel)) (by decide +kernel), ⟨_, rfl, rfl⟩⟩
theorem m_X6_clear : mOk k_X6_clear 0 := ⟨gw_in (List.mem_of_getElem? (i := 312) (by decide +kernel)) (by decide +kernel), ini_RX6, ⟨by decide +kernel, by decide +kernel, by decide +kernel⟩, by decide⟩
theorem v_X6_clear : vOk k_X6_clear 0 6 := ⟨m_X6_clear, gw_in (List.mem_of_getElem? (i := 310) (by decide +kernel)) (by decide +kernel), gw_in (List.mem_of_getElem? (i := 311) (by decide +kernel)) (by decide +kernel), ⟨_, rfl, rfl⟩⟩
theorem m_X6_add : mOk k_X6_add 1 := ⟨gw_in (List.mem_of_getElem? (i := 296) (by decide +kernel)) (by decide +kernel), ini_RX6, ⟨by decide +kernel, by decide +kernel, by decide +kernel⟩, by decide⟩
theorem v_X6_add : vOk k_X6_add 1 6 := ⟨m_X6_add, gw_in (List.mem_of_getElem? (i := 294) (by decide +kernel)) (by decide +kernel), gw_in (List.mem_of_getElem? (i := 295) (by decide +kernel)) (by decide +kernel), ⟨_, rfl, rfl⟩⟩
theorem m_X6_addAt : mOk k_X6_addAt 2 := ⟨gw_in (List.mem_of_getElem? (i := 703) (by decide +kernel)) (by decide +kernel), ini_RX6, ⟨by decide +kernel, by decide +kernel, by decide +kernel⟩, by decide⟩
theorem v_X6_addAt : vOk k_X6_addAt 2 6 := ⟨m_X6_addAt, gw_in (List.mem_of_getElem? (i := 701) (by decide +kernel)) (by decide +kernel), gw_in (List.mem_of_getElem? (i := 702) (by decide +kernel)) (by decide +kernel), ⟨_, rfl, rfl⟩⟩
theorem m_X6_removeFrom : mOk k_X6_removeFrom 2 := ⟨gw_in (List.mem_of_getElem? (i := 695) (by decide +kernel)) (by decide +kernel), ini_RX6, ⟨by decide +kernel, by decide +kernel, by decide +kernel⟩, by decide⟩
theorem v_X6_removeFrom : vOk k_X6_removeFrom 2 6 := ⟨m_X6_removeFrom, gw_in (List.mem_of_getElem? (i := 693) (by decide +kernel)) (by decide +kernel), gw_in (List.mem_of_getElem? (i := 694) (by decide +kernel)) (by decide +kernel), ⟨_, rfl, rfl⟩⟩
theorem m_X6_take : mOk k_X6_take 1 := ⟨gw_in (List.mem_of_getElem? (i := 339) (by decide +kernel)) (by decide +kernel), ini_RX6, ⟨by decide +kernel, by decide +kernel, by decide +kernel⟩, by decide⟩
theorem v_X6_take : vOk k_X6_take 1 6 := ⟨m_X6_take, gw_in (List.mem_of_getElem? (i := 337) (by decide +kernel)) (by decide +kernel), gw_in (List.mem_of_getElem? (i := 338) (by decide +kernel)) (by decide +kernel), ⟨_, rfl, rfl⟩⟩
theorem m_X6_howMany : mOk k_X6_howMany 1 := ⟨gw_in (List.mem_of_getElem? (i := 620) (by decide +kernel)) (by decide +kernel), ini_RX6, ⟨by decide +kernel, by decide +kernel, by decide +kernel⟩, by decide⟩
theorem v_X6_howMany : vOk k_X6_howMany 1 6 := ⟨m_X6_howMany, gw_in (List.mem_of_getElem? (i := 618) (by decide +kernel)) (by decide +kernel), gw_in (List.mem_of_getElem? (i := 619) (by decide +kernel)) (by decide +kernel), ⟨_, rfl, rfl⟩⟩
theorem m_X6_isPair : mOk k_X6_isPair 2 := ⟨gw_in (List.mem_of_getElem? (i := 571) (by decide +kernel)) (by decide +kernel), ini_RX6, ⟨by decide +kernel, by decide +kernel, by decide +kernel⟩, by decide⟩
theorem v_X6_isPair : vOk k_X6_isPair 2 6 := ⟨m_X6_isPair, gw_in (List.mem_of_getElem? (i := 569) (by decide +kernel)) (by decide +kernel), gw_in (List.mem_of_getElem? (i := 570) (by decide +kernel)) (by decide +kernel), ⟨_, rfl, rfl⟩⟩
theorem m_X6_joinPairs : mOk k_X6_joinPairs 3 := ⟨gw_in (List.mem_of_getElem? (i := 585) (by decide +kernel)) (by decide +kernel), ini_RX6, ⟨by decide +kernel, by decide +kernel, by decide +kernel⟩, by decide⟩
theorem v_X6_joinPairs : vOk k_X6_joinPairs 3 6 := ⟨m_X6_joinPairs, gw_in (List.mem_of_getElem? (i := 583) (by decide +kernel)) (by decide +kernel), gw_in (List.mem_of_getElem? (i := 584) (by decide +kernel)) (by decide +kernel), ⟨_, rfl, rfl⟩⟩
theorem m_X6_spreadAll : mOk k_X6_spreadAll 2 := ⟨gw_in (List.mem_of_getElem? (i := 628) (by decide +kernel)) (by decide +kernel), ini_RX6, ⟨by decide +kernel, by decide +kernel, by decide +kernel⟩, by decide⟩
theorem v_X6_spreadAll : vOk k_X6_spreadAll 2 6 := ⟨m_X6_spreadAll, gw_in (List.mem_of_getElem? (i := 626) (by decide +kernel)) (by decide +kernel), gw_in (List.mem_of_getElem? (i := 627) (by decide +kernel)) (by decide +kernel), ⟨_, rfl, rfl⟩⟩
theorem m_X6_spreadAt : mOk k_X6_spreadAt 2 := ⟨gw_in (List.mem_of_getElem? (i := 632) (by decide +kernel)) (by decide +kernel), ini_RX6, ⟨by decide +kernel, by decide +kernel, by decide +kernel⟩, by decide⟩
theorem v_X6_spreadAt : vOk k_X6_spreadAt 2 6 := ⟨m_X6_spreadAt, gw_in (List.mem_of_getElem? (i := 630) (by decide +kernel)) (by decide +kernel), gw_in (List.mem_of_getElem? (i := 631) (by decide +kernel)) (by decide +kernel), ⟨_, rfl, rfl⟩⟩
theorem m_X6_moveTail : mOk k_X6_moveTail 2 := ⟨gw_in (List.mem_of_getElem? (i := 636) (by decide +kernel)) (by decide +kernel), ini_RX6, ⟨by decide +kernel, by decide +kernel, by decide +kernel⟩, by decide⟩
theorem v_X6_moveTail : vOk k_X6_moveTail 2 6 := ⟨m_X6_moveTail, gw_in (List.mem_of_getElem? (i := 635) (by decide +kernel)) (by decide +kernel), gw_sel (List.mem_of_getElem? (i := 26) (by decide +kernel)) (by decide +kernel), ⟨_, rfl, rfl⟩⟩
theorem m_X7_init : mOk k_X7_init 0 := ⟨gw_in (List.mem_of_getElem? (i := 180) (by decide +kernel)) (by decide +kernel), ini_RX7, ⟨by decide +kernel, by decide +kernel, by decide +kernel⟩, by decide⟩
theorem i_X7_init : iOk k_X7_init 0 := ⟨m_X7_init, gw_in (List.mem_of_getElem? (i := 179) (by decide +kernel)) (by decide +kernel), rfl, rfl⟩
theorem m_X7_leastSize : mOk k_X7_leastSize 2 := ⟨gw_in (List.mem_of_getElem? (i := 838) (by decide +kernel)) (by decide +kernel), ini_RX7, ⟨by decide +kernel, by decide +kernel, by decide +kernel⟩, by decide⟩
theorem v_X7_leastSize : vOk k_X7_leastSize 2 7 := ⟨m_X7_leastSize, gw_in (List.mem_of_getElem? (i := 836) (by decide +kernel)) (by decide +kernel), gw_in (List.mem_of_getElem? (i := 837) (by decide +kernel)) (by decide +kernel), ⟨_, rfl, rfl⟩⟩
theorem m_X7_markRules : mOk k_X7_markRules 2 := ⟨gw_in (List.mem_of_getElem? (i := 847) (by decide +kernel)) (by decide +kernel), ini_RX7, ⟨by decide +kernel, by decide +kernel, by decide +kernel⟩, by decide⟩
theorem v_X7_markRules : vOk k_X7_markRules 2 7 := ⟨m_X7_markRules, gw_in (List.mem_of_getElem? (i := 846) (by decide +kernel)) (by decide +kernel), gw_sel (List.mem_of_getElem? (i := 30) (by decide +kernel)) (by decide +kernel), ⟨_, rfl, rfl⟩⟩
theorem m_X7_isRuled : mOk k_X7_isRuled 1 := ⟨gw_in (List.mem_of_getElem? (i := 869) (by decide +kernel)) (by decide +kernel), ini_RX7, ⟨by decide +kernel, by decide +kernel, by decide +kernel⟩, by decide⟩
theorem v_X7_isRuled : vOk k_X7_isRuled 1 7 := ⟨m_X7_isRuled, gw_in (List.mem_of_getElem? (i := 868) (by decide +kernel)) (by decide +kernel), gw_sel (List.mem_of_getElem? (i := 32) (by decide +kernel)) (by decide +kernel), ⟨_, rfl, rfl⟩⟩
theorem m_X7_gainOf : mOk k_X7_gainOf 2 := ⟨gw_in (List.mem_of_getElem? (i := 873) (by decide +kernel)) (by decide +kernel), ini_RX7, ⟨by decide +kernel, by decide +kernel, by decide +kernel⟩, by decide⟩
theorem v_X7_gainOf : vOk k_X7_gainOf 2 7 := ⟨m_X7_gainOf, gw_in (List.mem_of_getElem? (i := 872) (by decide +kernel)) (by decide +kernel), gw_sel (List.mem_of_getElem? (i := 33) (by decide +kernel)) (by decide +kernel), ⟨_, rfl, rfl⟩⟩
theorem m_X7_greatestGain : mOk k_X7_greatestGain 2 := ⟨gw_in (List.mem_of_getElem? (i := 857) (by decide +kernel)) (by decide +kernel), ini_RX7, ⟨by decide +kernel, by decide +kernel, by decide +kernel⟩, by decide⟩
theorem v_X7_greatestGain : vOk k_X7_greatestGain 2 7 := ⟨m_X7_greatestGain, gw_in (List.mem_of_getElem? (i := 856) (by decide +kernel)) (by decide +kernel), gw_sel (List.mem_of_getElem? (i := 31) (by decide +kernel)) (by decide +kernel), ⟨_, rfl, rfl⟩⟩
theorem m_X7_leastBehind : mOk k_X7_leastBehind 4 := ⟨gw_in (List.mem_of_getElem? (i := 880) (by decide +kernel)) (by decide +kernel), ini_RX7, ⟨by decide +kernel, by decide +kernel, by decide +kernel⟩, by decide⟩
theorem v_X7_leastBehind : vOk k_X7_leastBehind 4 7 := ⟨m_X7_leastBehind, gw_in (List.mem_of_getElem? (i := 879) (by decide +kernel)) (by decide +kernel), gw_sel (List.mem_of_getElem? (i := 34) (by decide +kernel)) (by decide +kernel), ⟨_, rfl, rfl⟩⟩
theorem m_X8_init : mOk k_X8_init 0 := ⟨gw_in (List.mem_of_getElem? (i := 111) (by decide +kernel)) (by decide +kernel), ini_RX8, ⟨by decide +kernel, by decide +kernel, by decide +kernel⟩, by decide⟩
theorem i_X8_init : iOk k_X8_init 0 := ⟨m_X8_init, gw_in (List.mem_of_getElem? (i := 110) (by decide +kernel)) (by decide +kernel), rfl, rfl⟩
theorem m_X8_learn : mOk k_X8_learn 1 := ⟨gw_in (List.mem_of_getElem? (i := 372) (by decide +kernel)) (by decide +kernel), ini_RX8, ⟨by decide +kernel, by decide +kernel, by decide +kernel⟩, by decide⟩
theorem v_X8_learn : vOk k_X8_learn 1 8 := ⟨m_X8_learn, gw_in (List.mem_of_getElem? (i := 370) (by decide +kernel)) (by decide +kernel), gw_in (List.mem_of_getElem? (i := 371) (by decide +kernel)) (by decide +kernel), ⟨_, rfl, rfl⟩⟩
theorem m_X8_told : mOk k_X8_told 0 := ⟨gw_in (List.mem_of_getElem? (i := 920) (by decide +kernel)) (by decide +kernel), ini_RX8, ⟨by decide +kernel, by decide +kernel, by decide +kernel⟩, by decide⟩
theorem v_X8_told : vOk k_X8_told 0 8 := ⟨m_X8_told, gw_in (List.mem_of_getElem? (i := 918) (by decide +kernel)) (by decide +kernel), gw_in (List.mem_of_getElem? (i := 919) (by decide +kernel)) (by decide +kernel), ⟨_, rfl, rfl⟩⟩
theorem m_X8_toldAt : mOk k_X8_toldAt 1 := ⟨gw_in (List.mem_of_getElem? (i := 924) (by decide +kernel)) (by decide +kernel), ini_RX8, ⟨by decide +kernel, by decide +kernel, by decide +kernel⟩, by decide⟩
theorem v_X8_toldAt : vOk k_X8_toldAt 1 8 := ⟨m_X8_toldAt, gw_in (List.mem_of_getElem? (i := 922) (by decide +kernel)) (by decide +kernel), gw_in (List.mem_of_getElem? (i := 923) (by decide +kernel)) (by decide +kernel), ⟨_, rfl, rfl⟩⟩
theorem m_X8_lettersOf : mOk k_X8_lettersOf 1 := ⟨gw_in (List.mem_of_getElem? (i := 398) (by decide +kernel)) (by decide +kernel), ini_RX8, ⟨by decide +kernel, by decide +kernel, by decide +kernel⟩, by decide⟩
theorem v_X8_lettersOf : vOk k_X8_lettersOf 1 8 := ⟨m_X8_lettersOf, gw_in (List.mem_of_getElem? (i := 396) (by decide +kernel)) (by decide +kernel), gw_in (List.mem_of_getElem? (i := 397) (by decide +kernel)) (by decide +kernel), ⟨_, rfl, rfl⟩⟩
theorem m_X8_depthOf : mOk k_X8_depthOf 1 := ⟨gw_in (List.mem_of_getElem? (i := 406) (by decide +kernel)) (by decide +kernel), ini_RX8, ⟨by decide +kernel, by decide +kernel, by decide +kernel⟩, by decide⟩
theorem v_X8_depthOf : vOk k_X8_depthOf 1 8 := ⟨m_X8_depthOf, gw_in (List.mem_of_getElem? (i := 404) (by decide +kernel)) (by decide +kernel), gw_in (List.mem_of_getElem? (i := 405) (by decide +kernel)) (by decide +kernel), ⟨_, rfl, rfl⟩⟩
theorem m_X8_goDown : mOk k_X8_goDown 4 := ⟨gw_in (List.mem_of_getElem? (i := 422) (by decide +kernel)) (by decide +kernel), ini_RX8, ⟨by decide +kernel, by decide +kernel, by decide +kernel⟩, by decide⟩
theorem v_X8_goDown : vOk k_X8_goDown 4 8 := ⟨m_X8_goDown, gw_in (List.mem_of_getElem? (i := 420) (by decide +kernel)) (by decide +kernel), gw_in (List.mem_of_getElem? (i := 421) (by decide +kernel)) (by decide +kernel), ⟨_, rfl, rfl⟩⟩
theorem m_X8_reached : mOk k_X8_reached 0 := ⟨gw_in (List.mem_of_getElem? (i := 426) (by decide +kernel)) (by decide +kernel), ini_RX8, ⟨by decide +kernel, by decide +kernel, by decide +kernel⟩, by decide⟩
theorem v_X8_reached : vOk k_X8_reached 0 8 := ⟨m_X8_reached, gw_in (List.mem_of_getElem? (i := 424) (by decide +kernel)) (by decide +kernel), gw_in (List.mem_of_getElem? (i := 425) (by decide +kernel)) (by decide +kernel), ⟨_, rfl, rfl⟩⟩
theorem m_X8_levelsGone : mOk k_X8_levelsGone 0 := ⟨gw_in (List.mem_of_getElem? (i := 431) (by decide +kernel)) (by decide +kernel), ini_RX8, ⟨by decide +kernel, by decide +kernel, by decide +kernel⟩, by decide⟩
theorem v_X8_levelsGone : vOk k_X8_levelsGone 0 8 := ⟨m_X8_levelsGone, gw_in (List.mem_of_getElem? (i := 429) (by decide +kernel)) (by decide +kernel), gw_in (List.mem_of_getElem? (i := 430) (by decide +kernel)) (by decide +kernel), ⟨_, rfl, rfl⟩⟩
theorem m_X8_leastReady : mOk k_X8_leastReady 1 := ⟨gw_in (List.mem_of_getElem? (i := 378) (by decide +kernel)) (by decide +kernel), ini_RX8, ⟨by decide +kernel, by decide +kernel, by decide +kernel⟩, by decide⟩
theorem v_X8_leastReady : vOk k_X8_leastReady 1 8 := ⟨m_X8_leastReady, gw_in (List.mem_of_getElem? (i := 377) (by decide +kernel)) (by decide +kernel), gw_sel (List.mem_of_getElem? (i := 7) (by decide +kernel)) (by decide +kernel), ⟨_, rfl, rfl⟩⟩
theorem m_X8_isReady : mOk k_X8_isReady 1 := ⟨gw_in (List.mem_of_getElem? (i := 392) (by decide +kernel)) (by decide +kernel), ini_RX8, ⟨by decide +kernel, by decide +kernel, by decide +kernel⟩, by decide⟩
theorem v_X8_isReady : vOk k_X8_isReady 1 8 := ⟨m_X8_isReady, gw_in (List.mem_of_getElem? (i := 391) (by decide +kernel)) (by decide +kernel), gw_sel (List.mem_of_getElem? (i := 8) (by decide +kernel)) (by decide +kernel), ⟨_, rfl, rfl⟩⟩
theorem m_X8_tell : mOk k_X8_tell 2 := ⟨gw_in (List.mem_of_getElem? (i := 402) (by decide +kernel)) (by decide +kernel), ini_RX8, ⟨by decide +kernel, by decide +kernel, by decide +kernel⟩, by decide⟩
theorem v_X8_tell : vOk k_X8_tell 2 8 := ⟨m_X8_tell, gw_in (List.mem_of_getElem? (i := 401) (by decide +kernel)) (by decide +kernel), gw_sel (List.mem_of_getElem? (i := 9) (by decide +kernel)) (by decide +kernel), ⟨_, rfl, rfl⟩⟩
theorem m_X9_init : mOk k_X9_init 0 := ⟨gw_in (List.mem_of_getElem? (i := 18) (by decide +kernel)) (by decide +kernel), ini_RX9, ⟨by decide +kernel, by decide +kernel, by decide +kernel⟩, by decide⟩
theorem i_X9_init : iOk k_X9_init 0 := ⟨m_X9_init, gw_in (List.mem_of_getElem? (i := 17) (by decide +kernel)) (by decide +kernel), rfl, rfl⟩
theorem m_X9_feed : mOk k_X9_feed 5 := ⟨gw_in (List.mem_of_getElem? (i := 284) (by decide +kernel)) (by decide +kernel), ini_RX9, ⟨by decide +kernel, by decide +kernel, by decide +kernel⟩, by decide⟩
theorem v_X9_feed : vOk k_X9_feed 5 9 := ⟨m_X9_feed, gw_in (List.mem_of_getElem? (i := 282) (by decide +kernel)) (by decide +kernel), gw_in (List.mem_of_getElem? (i := 283) (by decide +kernel)) (by decide +kernel), ⟨_, rfl, rfl⟩⟩
theorem m_X9_text : mOk k_X9_text 1 := ⟨gw_in (List.mem_of_getElem? (i := 300) (by decide +kernel)) (by decide +kernel), ini_RX9, ⟨by decide +kernel, by decide +kernel, by decide +kernel⟩, by decide⟩
theorem v_X9_text : vOk k_X9_text 1 9 := ⟨m_X9_text, gw_in (List.mem_of_getElem? (i := 298) (by decide +kernel)) (by decide +kernel), gw_in (List.mem_of_getElem? (i := 299) (by decide +kernel)) (by decide +kernel), ⟨_, rfl, rfl⟩⟩
theorem m_X9_phrase : mOk k_X9_phrase 1 := ⟨gw_in (List.mem_of_getElem? (i := 364) (by decide +kernel)) (by decide +kernel), ini_RX9, ⟨by decide +kernel, by decide +kernel, by decide +kernel⟩, by decide⟩
theorem v_X9_phrase : vOk k_X9_phrase 1 9 := ⟨m_X9_phrase, gw_in (List.mem_of_getElem? (i := 362) (by decide +kernel)) (by decide +kernel), gw_in (List.mem_of_getElem? (i := 363) (by decide +kernel)) (by decide +kernel), ⟨_, rfl, rfl⟩⟩
theorem m_X9_load : mOk k_X9_load 1 := ⟨gw_in (List.mem_of_getElem? (i := 443) (by decide +kernel)) (by decide +kernel), ini_RX9, ⟨by decide +kernel, by decide +kernel, by decide +kernel⟩, by decide⟩
theorem v_X9_load : vOk k_X9_load 1 9 := ⟨m_X9_load, gw_in (List.mem_of_getElem? (i := 441) (by decide +kernel)) (by decide +kernel), gw_in (List.mem_of_getElem? (i := 442) (by decide +kernel)) (by decide +kernel), ⟨_, rfl, rfl⟩⟩
theorem m_X9_fault : mOk k_X9_fault 1 := ⟨gw_in (List.mem_of_getElem? (i := 510) (by decide +kernel)) (by decide +kernel), ini_RX9, ⟨by decide +kernel, by decide +kernel, by decide +kernel⟩, by decide⟩
theorem v_X9_fault : vOk k_X9_fault 1 9 := ⟨m_X9_fault, gw_in (List.mem_of_getElem? (i := 508) (by decide +kernel)) (by decide +kernel), gw_in (List.mem_of_getElem? (i := 509) (by decide +kernel)) (by decide +kernel), ⟨_, rfl, rfl⟩⟩
theorem m_X9_step : mOk k_X9_step 0 := ⟨gw_in (List.mem_of_getElem? (i := 514) (by decide +kernel)) (by decide +kernel), ini_RX9, ⟨by decide +kernel, by decide +kernel, by decide +kernel⟩, by decide⟩
theorem v_X9_step : vOk k_X9_step 0 9 := ⟨m_X9_step, gw_in (List.mem_of_getElem? (i := 512) (by decide +kernel)) (by decide +kernel), gw_in (List.mem_of_getElem? (i := 513) (by decide +kernel)) (by decide +kernel), ⟨_, rfl, rfl⟩⟩
theorem m_X9_pack : mOk k_X9_pack 0 := ⟨gw_in (List.mem_of_getElem? (i := 589) (by decide +kernel)) (by decide +kernel), ini_RX9, ⟨by decide +kernel, by decide +kernel, by decide +kernel⟩, by decide⟩
theorem v_X9_pack : vOk k_X9_pack 0 9 := ⟨m_X9_pack, gw_in (List.mem_of_getElem? (i := 587) (by decide +kernel)) (by decide +kernel), gw_in (List.mem_of_getElem? (i := 588) (by decide +kernel)) (by decide +kernel), ⟨_, rfl, rfl⟩⟩
theorem m_X9_replace : mOk k_X9_replace 2 := ⟨gw_in (List.mem_of_getElem? (i := 597) (by decide +kernel)) (by decide +kernel), ini_RX9, ⟨by decide +kernel, by decide +kernel, by decide +kernel⟩, by decide⟩
theorem v_X9_replace : vOk k_X9_replace 2 9 := ⟨m_X9_replace, gw_in (List.mem_of_getElem? (i := 595) (by decide +kernel)) (by decide +kernel), gw_in (List.mem_of_getElem? (i := 596) (by decide +kernel)) (by decide +kernel), ⟨_, rfl, rfl⟩⟩
theorem m_X9_drop : mOk k_X9_drop 1 := ⟨gw_in (List.mem_of_getElem? (i := 611) (by decide +kernel)) (by decide +kernel), ini_RX9, ⟨by decide +kernel, by decide +kernel, by decide +kernel⟩, by decide⟩
theorem v_X9_drop : vOk k_X9_drop 1 9 := ⟨m_X9_drop, gw_in (List.mem_of_getElem? (i := 609) (by decide +kernel)) (by decide +kernel), gw_in (List.mem_of_getElem? (i := 610) (by decide +kernel)) (by decide +kernel), ⟨_, rfl, rfl⟩⟩
theorem m_X9_trim : mOk k_X9_trim 0 := ⟨gw_in (List.mem_of_getElem? (i := 647) (by decide +kernel)) (by decide +kernel), ini_RX9, ⟨by decide +kernel, by decide +kernel, by decide +kernel⟩, by decide⟩
theorem v_X9_trim : vOk k_X9_trim 0 9 := ⟨m_X9_trim, gw_in (List.mem_of_getElem? (i := 645) (by decide +kernel)) (by decide +kernel), gw_in (List.mem_of_getElem? (i := 646) (by decide +kernel)) (by decide +kernel), ⟨_, rfl, rfl⟩⟩
theorem m_X9_unpack : mOk k_X9_unpack 0 := ⟨gw_in (List.mem_of_getElem? (i := 660) (by decide +kernel)) (by decide +kernel), ini_RX9, ⟨by decide +kernel, by decide +kernel, by decide +kernel⟩, by decide⟩
theorem v_X9_unpack : vOk k_X9_unpack 0 9 := ⟨m_X9_unpack, gw_in (List.mem_of_getElem? (i := 658) (by decide +kernel)) (by decide +kernel), gw_in (List.mem_of_getElem? (i := 659) (by decide +kernel)) (by decide +kernel), ⟨_, rfl, rfl⟩⟩
theorem m_X9_put : mOk k_X9_put 2 := ⟨gw_in (List.mem_of_getElem? (i := 668) (by decide +kernel)) (by decide +kernel), ini_RX9, ⟨by decide +kernel, by decide +kernel, by decide +kernel⟩, by decide⟩
theorem v_X9_put : vOk k_X9_put 2 9 := ⟨m_X9_put, gw_in (List.mem_of_getElem? (i := 666) (by decide +kernel)) (by decide +kernel), gw_in (List.mem_of_getElem? (i := 667) (by decide +kernel)) (by decide +kernel), ⟨_, rfl, rfl⟩⟩
theorem m_X9_cut : mOk k_X9_cut 2 := ⟨gw_in (List.mem_of_getElem? (i := 687) (by decide +kernel)) (by decide +kernel), ini_RX9, ⟨by decide +kernel, by decide +kernel, by decide +kernel⟩, by decide⟩
theorem v_X9_cut : vOk k_X9_cut 2 9 := ⟨m_X9_cut, gw_in (List.mem_of_getElem? (i := 685) (by decide +kernel)) (by decide +kernel), gw_in (List.mem_of_getElem? (i := 686) (by decide +kernel)) (by decide +kernel), ⟨_, rfl, rfl⟩⟩
theorem m_X9_insert : mOk k_X9_insert 2 := ⟨gw_in (List.mem_of_getElem? (i := 699) (by decide +kernel)) (by decide +kernel), ini_RX9, ⟨by decide +kernel, by decide +kernel, by decide +kernel⟩, by decide⟩
theorem v_X9_insert : vOk k_X9_insert 2 9 := ⟨m_X9_insert, gw_in (List.mem_of_getElem? (i := 697) (by decide +kernel)) (by decide +kernel), gw_in (List.mem_of_getElem? (i := 698) (by decide +kernel)) (by decide +kernel), ⟨_, rfl, rfl⟩⟩
theorem m_X9_sign : mOk k_X9_sign 1 := ⟨gw_in (List.mem_of_getElem? (i := 707) (by decide +kernel)) (by decide +kernel), ini_RX9, ⟨by decide +kernel, by decide +kernel, by decide +kernel⟩, by decide⟩
theorem v_X9_sign : vOk k_X9_sign 1 9 := ⟨m_X9_sign, gw_in (List.mem_of_getElem? (i := 705) (by decide +kernel)) (by decide +kernel), gw_in (List.mem_of_getElem? (i := 706) (by decide +kernel)) (by decide +kernel), ⟨_, rfl, rfl⟩⟩
theorem m_X9_rule : mOk k_X9_rule 2 := ⟨gw_in (List.mem_of_getElem? (i := 711) (by decide +kernel)) (by decide +kernel), ini_RX9, ⟨by decide +kernel, by decide +kernel, by decide +kernel⟩, by decide⟩
theorem v_X9_rule : vOk k_X9_rule 2 9 := ⟨m_X9_rule, gw_in (List.mem_of_getElem? (i := 709) (by decide +kernel)) (by decide +kernel), gw_in (List.mem_of_getElem? (i := 710) (by decide +kernel)) (by decide +kernel), ⟨_, rfl, rfl⟩⟩
theorem m_X9_word : mOk k_X9_word 2 := ⟨gw_in (List.mem_of_getElem? (i := 728) (by decide +kernel)) (by decide +kernel), ini_RX9, ⟨by decide +kernel, by decide +kernel, by decide +kernel⟩, by decide⟩
theorem v_X9_word : vOk k_X9_word 2 9 := ⟨m_X9_word, gw_in (List.mem_of_getElem? (i := 726) (by decide +kernel)) (by decide +kernel), gw_in (List.mem_of_getElem? (i := 727) (by decide +kernel)) (by decide +kernel), ⟨_, rfl, rfl⟩⟩
theorem m_X9_pairs : mOk k_X9_pairs 2 := ⟨gw_in (List.mem_of_getElem? (i := 734) (by decide +kernel)) (by decide +kernel), ini_RX9, ⟨by decide +kernel, by decide +kernel, by decide +kernel⟩, by decide⟩
theorem v_X9_pairs : vOk k_X9_pairs 2 9 := ⟨m_X9_pairs, gw_in (List.mem_of_getElem? (i := 732) (by decide +kernel)) (by decide +kernel), gw_in (List.mem_of_getElem? (i := 733) (by decide +kernel)) (by decide +kernel), ⟨_, rfl, rfl⟩⟩
theorem m_X9_pick : mOk k_X9_pick 1 := ⟨gw_in (List.mem_of_getElem? (i := 738) (by decide +kernel)) (by decide +kernel), ini_RX9, ⟨by decide +kernel, by decide +kernel, by decide +kernel⟩, by decide⟩
theorem v_X9_pick : vOk k_X9_pick 1 9 := ⟨m_X9_pick, gw_in (List.mem_of_getElem? (i := 736) (by decide +kernel)) (by decide +kernel), gw_in (List.mem_of_getElem? (i := 737) (by decide +kernel)) (by decide +kernel), ⟨_, rfl, rfl⟩⟩
theorem m_X9_at : mOk k_X9_at 1 := ⟨gw_in (List.mem_of_getElem? (i := 742) (by decide +kernel)) (by decide +kernel), ini_RX9, ⟨by decide +kernel, by decide +kernel, by decide +kernel⟩, by decide⟩
theorem v_X9_at : vOk k_X9_at 1 9 := ⟨m_X9_at, gw_in (List.mem_of_getElem? (i := 740) (by decide +kernel)) (by decide +kernel), gw_in (List.mem_of_getElem? (i := 741) (by decide +kernel)) (by decide +kernel), ⟨_, rfl, rfl⟩⟩
theorem m_X9_within : mOk k_X9_within 2 := ⟨gw_in (List.mem_of_getElem? (i := 746) (by decide +kernel)) (by decide +kernel), ini_RX9, ⟨by decide +kernel, by decide +kernel, by decide +kernel⟩, by decide⟩
theorem v_X9_within : vOk k_X9_within 2 9 := ⟨m_X9_within, gw_in (List.mem_of_getElem? (i := 744) (by decide +kernel)) (by decide +kernel), gw_in (List.mem_of_getElem? (i := 745) (by decide +kernel)) (by decide +kernel), ⟨_, rfl, rfl⟩⟩
theorem m_X9_way : mOk k_X9_way 2 := ⟨gw_in (List.mem_of_getElem? (i := 762) (by decide +kernel)) (by decide +kernel), ini_RX9, ⟨by decide +kernel, by decide +kernel, by decide +kernel⟩, by decide⟩
theorem v_X9_way : vOk k_X9_way 2 9 := ⟨m_X9_way, gw_in (List.mem_of_getElem? (i := 760) (by decide +kernel)) (by decide +kernel), gw_in (List.mem_of_getElem? (i := 761) (by decide +kernel)) (by decide +kernel), ⟨_, rfl, rfl⟩⟩
theorem m_X9_ahead : mOk k_X9_ahead 2 := ⟨gw_in (List.mem_of_getElem? (i := 767) (by decide +kernel)) (by decide +kernel), ini_RX9, ⟨by decide +kernel, by decide +kernel, by decide +kernel⟩, by decide⟩
theorem v_X9_ahead : vOk k_X9_ahead 2 9 := ⟨m_X9_ahead, gw_in (List.mem_of_getElem? (i := 765) (by decide +kernel)) (by decide +kernel), gw_in (List.mem_of_getElem? (i := 766) (by decide +kernel)) (by decide +kernel), ⟨_, rfl, rfl⟩⟩
theorem m_X9_where : mOk k_X9_where 2 := ⟨gw_in (List.mem_of_getElem? (i := 771) (by decide +kernel)) (by decide +kernel), ini_RX9, ⟨by decide +kernel, by decide +kernel, by decide +kernel⟩, by decide⟩
theorem v_X9_where : vOk k_X9_where 2 9 := ⟨m_X9_where, gw_in (List.mem_of_getElem? (i := 769) (by decide +kernel)) (by decide +kernel), gw_in (List.mem_of_getElem? (i := 770) (by decide +kernel)) (by decide +kernel), ⟨_, rfl, rfl⟩⟩
theorem m_X9_common : mOk k_X9_common 2 := ⟨gw_in (List.mem_of_getElem? (i := 775) (by decide +kernel)) (by decide +kernel), ini_RX9, ⟨by decide +kernel, by decide +kernel, by decide +kernel⟩, by decide⟩
theorem v_X9_common : vOk k_X9_common 2 9 := ⟨m_X9_common, gw_in (List.mem_of_getElem? (i := 773) (by decide +kernel)) (by decide +kernel), gw_in (List.mem_of_getElem? (i := 774) (by decide +kernel)) (by decide +kernel), ⟨_, rfl, rfl⟩⟩
theorem m_X9_compare : mOk k_X9_compare 2 := ⟨gw_in (List.mem_of_getElem? (i := 784) (by decide +kernel)) (by decide +kernel), ini_RX9, ⟨by decide +kernel, by decide +kernel, by decide +kernel⟩, by decide⟩
theorem v_X9_compare : vOk k_X9_compare 2 9 := ⟨m_X9_compare, gw_in (List.mem_of_getElem? (i := 782) (by decide +kernel)) (by decide +kernel), gw_in (List.mem_of_getElem? (i := 783) (by decide +kernel)) (by decide +kernel), ⟨_, rfl, rfl⟩⟩
theorem m_X9_print : mOk k_X9_print 2 := ⟨gw_in (List.mem_of_getElem? (i := 788) (by decide +kernel)) (by decide +kernel), ini_RX9, ⟨by decide +kernel, by decide +kernel, by decide +kernel⟩, by decide⟩
theorem v_X9_print : vOk k_X9_print 2 9 := ⟨m_X9_print, gw_in (List.mem_of_getElem? (i := 786) (by decide +kernel)) (by decide +kernel), gw_in (List.mem_of_getElem? (i := 787) (by decide +kernel)) (by decide +kernel), ⟨_, rfl, rfl⟩⟩
theorem m_X9_repeat : mOk k_X9_repeat 0 := ⟨gw_in (List.mem_of_getElem? (i := 793) (by decide +kernel)) (by decide +kernel), ini_RX9, ⟨by decide +kernel, by decide +kernel, by decide +kernel⟩, by decide⟩
theorem v_X9_repeat : vOk k_X9_repeat 0 9 := ⟨m_X9_repeat, gw_in (List.mem_of_getElem? (i := 791) (by decide +kernel)) (by decide +kernel), gw_in (List.mem_of_getElem? (i := 792) (by decide +kernel)) (by decide +kernel), ⟨_, rfl, rfl⟩⟩
theorem m_X9_repeatAt : mOk k_X9_repeatAt 0 := ⟨gw_in (List.mem_of_getElem? (i := 805) (by decide +kernel)) (by decide +kernel), ini_RX9, ⟨by decide +kernel, by decide +kernel, by decide +kernel⟩, by decide⟩
theorem v_X9_repeatAt : vOk k_X9_repeatAt 0 9 := ⟨m_X9_repeatAt, gw_in (List.mem_of_getElem? (i := 803) (by decide +kernel)) (by decide +kernel), gw_in (List.mem_of_getElem? (i := 804) (by decide +kernel)) (by decide +kernel), ⟨_, rfl, rfl⟩⟩
theorem m_X9_hit : mOk k_X9_hit 1 := ⟨gw_in (List.mem_of_getElem? (i := 813) (by decide +kernel)) (by decide +kernel), ini_RX9, ⟨by decide +kernel, by decide +kernel, by decide +kernel⟩, by decide⟩
theorem v_X9_hit : vOk k_X9_hit 1 9 := ⟨m_X9_hit, gw_in (List.mem_of_getElem? (i := 811) (by decide +kernel)) (by decide +kernel), gw_in (List.mem_of_getElem? (i := 812) (by decide +kernel)) (by decide +kernel), ⟨_, rfl, rfl⟩⟩
theorem m_X9_hits : mOk k_X9_hits 1 := ⟨gw_in (List.mem_of_getElem? (i := 821) (by decide +kernel)) (by decide +kernel), ini_RX9, ⟨by decide +kernel, by decide +kernel, by decide +kernel⟩, by decide⟩
theorem v_X9_hits : vOk k_X9_hits 1 9 := ⟨m_X9_hits, gw_in (List.mem_of_getElem? (i := 819) (by decide +kernel)) (by decide +kernel), gw_in (List.mem_of_getElem? (i := 820) (by decide +kernel)) (by decide +kernel), ⟨_, rfl, rfl⟩⟩
theorem m_X9_gain : mOk k_X9_gain 2 := ⟨gw_in (List.mem_of_getElem? (i := 829) (by decide +kernel)) (by decide +kernel), ini_RX9, ⟨by decide +kernel, by decide +kernel, by decide +kernel⟩, by decide⟩
theorem v_X9_gain : vOk k_X9_gain 2 9 := ⟨m_X9_gain, gw_in (List.mem_of_getElem? (i := 827) (by decide +kernel)) (by decide +kernel), gw_in (List.mem_of_getElem? (i := 828) (by decide +kernel)) (by decide +kernel), ⟨_, rfl, rfl⟩⟩
theorem m_X9_best : mOk k_X9_best 1 := ⟨gw_in (List.mem_of_getElem? (i := 834) (by decide +kernel)) (by decide +kernel), ini_RX9, ⟨by decide +kernel, by decide +kernel, by decide +kernel⟩, by decide⟩
theorem v_X9_best : vOk k_X9_best 1 9 := ⟨m_X9_best, gw_in (List.mem_of_getElem? (i := 832) (by decide +kernel)) (by decide +kernel), gw_in (List.mem_of_getElem? (i := 833) (by decide +kernel)) (by decide +kernel), ⟨_, rfl, rfl⟩⟩
theorem m_X9_bits : mOk k_X9_bits 1 := ⟨gw_in (List.mem_of_getElem? (i := 889) (by decide +kernel)) (by decide +kernel), ini_RX9, ⟨by decide +kernel, by decide +kernel, by decide +kernel⟩, by decide⟩
theorem v_X9_bits : vOk k_X9_bits 1 9 := ⟨m_X9_bits, gw_in (List.mem_of_getElem? (i := 887) (by decide +kernel)) (by decide +kernel), gw_in (List.mem_of_getElem? (i := 888) (by decide +kernel)) (by decide +kernel), ⟨_, rfl, rfl⟩⟩
theorem m_X9_form : mOk k_X9_form 1 := ⟨gw_in (List.mem_of_getElem? (i := 912) (by decide +kernel)) (by decide +kernel), ini_RX9, ⟨by decide +kernel, by decide +kernel, by decide +kernel⟩, by decide⟩
theorem v_X9_form : vOk k_X9_form 1 9 := ⟨m_X9_form, gw_in (List.mem_of_getElem? (i := 910) (by decide +kernel)) (by decide +kernel), gw_in (List.mem_of_getElem? (i := 911) (by decide +kernel)) (by decide +kernel), ⟨_, rfl, rfl⟩⟩
theorem m_X9_code : mOk k_X9_code 2 := ⟨gw_in (List.mem_of_getElem? (i := 932) (by decide +kernel)) (by decide +kernel), ini_RX9, ⟨by decide +kernel, by decide +kernel, by decide +kernel⟩, by decide⟩
theorem v_X9_code : vOk k_X9_code 2 9 := ⟨m_X9_code, gw_in (List.mem_of_getElem? (i := 930) (by decide +kernel)) (by decide +kernel), gw_in (List.mem_of_getElem? (i := 931) (by decide +kernel)) (by decide +kernel), ⟨_, rfl, rfl⟩⟩
theorem m_X9_coded : mOk k_X9_coded 1 := ⟨gw_in (List.mem_of_getElem? (i := 980) (by decide +kernel)) (by decide +kernel), ini_RX9, ⟨by decide +kernel, by decide +kernel, by decide +kernel⟩, by decide⟩
theorem v_X9_coded : vOk k_X9_coded 1 9 := ⟨m_X9_coded, gw_in (List.mem_of_getElem? (i := 978) (by decide +kernel)) (by decide +kernel), gw_in (List.mem_of_getElem? (i := 979) (by decide +kernel)) (by decide +kernel), ⟨_, rfl, rfl⟩⟩
theorem m_X9_undo : mOk k_X9_undo 1 := ⟨gw_in (List.mem_of_getElem? (i := 988) (by decide +kernel)) (by decide +kernel), ini_RX9, ⟨by decide +kernel, by decide +kernel, by decide +kernel⟩, by decide⟩
theorem v_X9_undo : vOk k_X9_undo 1 9 := ⟨m_X9_undo, gw_in (List.mem_of_getElem? (i := 986) (by decide +kernel)) (by decide +kernel), gw_in (List.mem_of_getElem? (i := 987) (by decide +kernel)) (by decide +kernel), ⟨_, rfl, rfl⟩⟩
theorem m_X9_image : mOk k_X9_image 1 := ⟨gw_in (List.mem_of_getElem? (i := 1001) (by decide +kernel)) (by decide +kernel), ini_RX9, ⟨by decide +kernel, by decide +kernel, by decide +kernel⟩, by decide⟩
theorem v_X9_image : vOk k_X9_image 1 9 := ⟨m_X9_image, gw_in (List.mem_of_getElem? (i := 999) (by decide +kernel)) (by decide +kernel), gw_in (List.mem_of_getElem? (i := 1000) (by decide +kernel)) (by decide +kernel), ⟨_, rfl, rfl⟩⟩
theorem m_X9_restore : mOk k_X9_restore 1 := ⟨gw_in (List.mem_of_getElem? (i := 1005) (by decide +kernel)) (by decide +kernel), ini_RX9, ⟨by decide +kernel, by decide +kernel, by decide +kernel⟩, by decide⟩
theorem v_X9_restore : vOk k_X9_restore 1 9 := ⟨m_X9_restore, gw_in (List.mem_of_getElem? (i := 1003) (by decide +kernel)) (by decide +kernel), gw_in (List.mem_of_getElem? (i := 1004) (by decide +kernel)) (by decide +kernel), ⟨_, rfl, rfl⟩⟩
theorem m_X9_count : mOk k_X9_count 1 := ⟨gw_in (List.mem_of_getElem? (i := 1013) (by decide +kernel)) (by decide +kernel), ini_RX9, ⟨by decide +kernel, by decide +kernel, by decide +kernel⟩, by decide⟩
theorem v_X9_count : vOk k_X9_count 1 9 := ⟨m_X9_count, gw_in (List.mem_of_getElem? (i := 1011) (by decide +kernel)) (by decide +kernel), gw_in (List.mem_of_getElem? (i := 1012) (by decide +kernel)) (by decide +kernel), ⟨_, rfl, rfl⟩⟩
theorem m_X9_isLetter : mOk k_X9_isLetter 1 := ⟨gw_in (List.mem_of_getElem? (i := 323) (by decide +kernel)) (by decide +kernel), ini_RX9, ⟨by decide +kernel, by decide +kernel, by decide +kernel⟩, by decide⟩
theorem s_X9_isLetter : sOk k_X9_isLetter 1 := ⟨m_X9_isLetter, gw_in (List.mem_of_getElem? (i := 322) (by decide +kernel)) (by decide +kernel)⟩
theorem m_X9_read : mOk k_X9_read 0 := ⟨gw_in (List.mem_of_getElem? (i := 368) (by decide +kernel)) (by decide +kernel), ini_RX9, ⟨by decide +kernel, by decide +kernel, by decide +kernel⟩, by decide⟩
theorem v_X9_read : vOk k_X9_read 0 9 := ⟨m_X9_read, gw_in (List.mem_of_getElem? (i := 367) (by decide +kernel)) (by decide +kernel), gw_sel (List.mem_of_getElem? (i := 6) (by decide +kernel)) (by decide +kernel), ⟨_, rfl, rfl⟩⟩
theorem m_X9_letterCount : mOk k_X9_letterCount 0 := ⟨gw_in (List.mem_of_getElem? (i := 502) (by decide +kernel)) (by decide +kernel), ini_RX9, ⟨by decide +kernel, by decide +kernel, by decide +kernel⟩, by decide⟩
theorem v_X9_letterCount : vOk k_X9_letterCount 0 9 := ⟨m_X9_letterCount, gw_in (List.mem_of_getElem? (i := 501) (by decide +kernel)) (by decide +kernel), gw_sel (List.mem_of_getElem? (i := 19) (by decide +kernel)) (by decide +kernel), ⟨_, rfl, rfl⟩⟩
theorem m_X9_isStretch : mOk k_X9_isStretch 2 := ⟨gw_in (List.mem_of_getElem? (i := 691) (by decide +kernel)) (by decide +kernel), ini_RX9, ⟨by decide +kernel, by decide +kernel, by decide +kernel⟩, by decide⟩
theorem v_X9_isStretch : vOk k_X9_isStretch 2 9 := ⟨m_X9_isStretch, gw_in (List.mem_of_getElem? (i := 690) (by decide +kernel)) (by decide +kernel), gw_sel (List.mem_of_getElem? (i := 27) (by decide +kernel)) (by decide +kernel), ⟨_, rfl, rfl⟩⟩
theorem m_X9_feedOne : mOk k_X9_feedOne 1 := ⟨gw_in (List.mem_of_getElem? (i := 292) (by decide +kernel)) (by decide +kernel), ini_RX9, ⟨by decide +kernel, by decide +kernel, by decide +kernel⟩, by decide⟩
theorem v_X9_feedOne : vOk k_X9_feedOne 1 9 := ⟨m_X9_feedOne, gw_in (List.mem_of_getElem? (i := 291) (by decide +kernel)) (by decide +kernel), gw_sel (List.mem_of_getElem? (i := 0) (by decide +kernel)) (by decide +kernel), ⟨_, rfl, rfl⟩⟩
theorem m_X9_isOnTape : mOk k_X9_isOnTape 1 := ⟨gw_in (List.mem_of_getElem? (i := 304) (by decide +kernel)) (by decide +kernel), ini_RX9, ⟨by decide +kernel, by decide +kernel, by decide +kernel⟩, by decide⟩
theorem v_X9_isOnTape : vOk k_X9_isOnTape 1 9 := ⟨m_X9_isOnTape, gw_in (List.mem_of_getElem? (i := 303) (by decide +kernel)) (by decide +kernel), gw_sel (List.mem_of_getElem? (i := 1) (by decide +kernel)) (by decide +kernel), ⟨_, rfl, rfl⟩⟩
theorem m_X9_firstNoLetter : mOk k_X9_firstNoLetter 1 := ⟨gw_in (List.mem_of_getElem? (i := 316) (by decide +kernel)) (by decide +kernel), ini_RX9, ⟨by decide +kernel, by decide +kernel, by decide +kernel⟩, by decide⟩
theorem v_X9_firstNoLetter : vOk k_X9_firstNoLetter 1 9 := ⟨m_X9_firstNoLetter, gw_in (List.mem_of_getElem? (i := 315) (by decide +kernel)) (by decide +kernel), gw_sel (List.mem_of_getElem? (i := 3) (by decide +kernel)) (by decide +kernel), ⟨_, rfl, rfl⟩⟩
theorem m_X9_takeLetters : mOk k_X9_takeLetters 2 := ⟨gw_in (List.mem_of_getElem? (i := 360) (by decide +kernel)) (by decide +kernel), ini_RX9, ⟨by decide +kernel, by decide +kernel, by decide +kernel⟩, by decide⟩
theorem v_X9_takeLetters : vOk k_X9_takeLetters 2 9 := ⟨m_X9_takeLetters, gw_in (List.mem_of_getElem? (i := 359) (by decide +kernel)) (by decide +kernel), gw_sel (List.mem_of_getElem? (i := 5) (by decide +kernel)) (by decide +kernel), ⟨_, rfl, rfl⟩⟩
theorem m_X9_endTape : mOk k_X9_endTape 2 := ⟨gw_in (List.mem_of_getElem? (i := 308) (by decide +kernel)) (by decide +kernel), ini_RX9, ⟨by decide +kernel, by decide +kernel, by decide +kernel⟩, by decide⟩
theorem v_X9_endTape : vOk k_X9_endTape 2 9 := ⟨m_X9_endTape, gw_in (List.mem_of_getElem? (i := 307) (by decide +kernel)) (by decide +kernel), gw_sel (List.mem_of_getElem? (i := 2) (by decide +kernel)) (by decide +kernel), ⟨_, rfl, rfl⟩⟩
theorem m_X9_refuseTape : mOk k_X9_refuseTape 2 := ⟨gw_in (List.mem_of_getElem? (i := 327) (by decide +kernel)) (by decide +kernel), ini_RX9, ⟨by decide +kernel, by decide +kernel, by decide +kernel⟩, by decide⟩
theorem v_X9_refuseTape : vOk k_X9_refuseTape 2 9 := ⟨m_X9_refuseTape, gw_in (List.mem_of_getElem? (i := 326) (by decide +kernel)) (by decide +kernel), gw_sel (List.mem_of_getElem? (i := 4) (by decide +kernel)) (by decide +kernel), ⟨_, rfl, rfl⟩⟩
theorem m_X9_join : mOk k_X9_join 2 := ⟨gw_in (List.mem_of_getElem? (i := 559) (by decide +kernel)) (by decide +kernel), ini_RX9, ⟨by decide +kernel, by decide +kernel, by decide +kernel⟩, by decide⟩
theorem v_X9_join : vOk k_X9_join 2 9 := ⟨m_X9_join, gw_in (List.mem_of_getElem? (i := 558) (by decide +kernel)) (by decide +kernel), gw_sel (List.mem_of_getElem? (i := 24) (by decide +kernel)) (by decide +kernel), ⟨_, rfl, rfl⟩⟩
theorem m_X9_packBest : mOk k_X9_packBest 0 := ⟨gw_in (List.mem_of_getElem? (i := 593) (by decide +kernel)) (by decide +kernel), ini_RX9, ⟨by decide +kernel, by decide +kernel, by decide +kernel⟩, by decide⟩
theorem v_X9_packBest : vOk k_X9_packBest 0 9 := ⟨m_X9_packBest, gw_in (List.mem_of_getElem? (i := 592) (by decide +kernel)) (by decide +kernel), gw_sel (List.mem_of_getElem? (i := 25) (by decide +kernel)) (by decide +kernel), ⟨_, rfl, rfl⟩⟩
theorem m_X9_rowSign : mOk k_X9_rowSign 2 := ⟨gw_in (List.mem_of_getElem? (i := 724) (by decide +kernel)) (by decide +kernel), ini_RX9, ⟨by decide +kernel, by decide +kernel, by decide +kernel⟩, by decide⟩
theorem v_X9_rowSign : vOk k_X9_rowSign 2 9 := ⟨m_X9_rowSign, gw_in (List.mem_of_getElem? (i := 723) (by decide +kernel)) (by decide +kernel), gw_sel (List.mem_of_getElem? (i := 29) (by decide +kernel)) (by decide +kernel), ⟨_, rfl, rfl⟩⟩
theorem m_X9_hitsWithin : mOk k_X9_hitsWithin 1 := ⟨gw_in (List.mem_of_getElem? (i := 720) (by decide +kernel)) (by decide +kernel), ini_RX9, ⟨by decide +kernel, by decide +kernel, by decide +kernel⟩, by decide⟩
theorem v_X9_hitsWithin : vOk k_X9_hitsWithin 1 9 := ⟨m_X9_hitsWithin, gw_in (List.mem_of_getElem? (i := 719) (by decide +kernel)) (by decide +kernel), gw_sel (List.mem_of_getElem? (i := 28) (by decide +kernel)) (by decide +kernel), ⟨_, rfl, rfl⟩⟩
theorem m_X9_greatestDepth : mOk k_X9_greatestDepth 0 := ⟨gw_in (List.mem_of_getElem? (i := 1018) (by decide +kernel)) (by decide +kernel), ini_RX9, ⟨by decide +kernel, by decide +kernel, by decide +kernel⟩, by decide⟩
theorem v_X9_greatestDepth : vOk k_X9_greatestDepth 0 9 := ⟨m_X9_greatestDepth, gw_in (List.mem_of_getElem? (i := 1017) (by decide +kernel)) (by decide +kernel), gw_sel (List.mem_of_getElem? (i := 45) (by decide +kernel)) (by decide +kernel), ⟨_, rfl, rfl⟩⟩
theorem m_X9_perLetter : mOk k_X9_perLetter 1 := ⟨gw_in (List.mem_of_getElem? (i := 894) (by decide +kernel)) (by decide +kernel), ini_RX9, ⟨by decide +kernel, by decide +kernel, by decide +kernel⟩, by decide⟩
theorem v_X9_perLetter : vOk k_X9_perLetter 1 9 := ⟨m_X9_perLetter, gw_in (List.mem_of_getElem? (i := 893) (by decide +kernel)) (by decide +kernel), gw_sel (List.mem_of_getElem? (i := 35) (by decide +kernel)) (by decide +kernel), ⟨_, rfl, rfl⟩⟩
theorem m_X9_foldedLengths : mOk k_X9_foldedLengths 0 := ⟨gw_in (List.mem_of_getElem? (i := 907) (by decide +kernel)) (by decide +kernel), ini_RX9, ⟨by decide +kernel, by decide +kernel, by decide +kernel⟩, by decide⟩
theorem v_X9_foldedLengths : vOk k_X9_foldedLengths 0 9 := ⟨m_X9_foldedLengths, gw_in (List.mem_of_getElem? (i := 906) (by decide +kernel)) (by decide +kernel), gw_sel (List.mem_of_getElem? (i := 36) (by decide +kernel)) (by decide +kernel), ⟨_, rfl, rfl⟩⟩
theorem m_X9_bitsOf : mOk k_X9_bitsOf 1 := ⟨gw_in (List.mem_of_getElem? (i := 897) (by decide +kernel)) (by decide +kernel), ini_RX9, ⟨by decide +kernel, by decide +kernel, by decide +kernel⟩, by decide⟩
theorem s_X9_bitsOf : sOk k_X9_bitsOf 1 := ⟨m_X9_bitsOf, gw_in (List.mem_of_getElem? (i := 896) (by decide +kernel)) (by decide +kernel)⟩
theorem m_X9_writeForm : mOk k_X9_writeForm 0 := ⟨gw_in (List.mem_of_getElem? (i := 916) (by decide +kernel)) (by decide +kernel), ini_RX9, ⟨by decide +kernel, by decide +kernel, by decide +kernel⟩, by decide⟩
theorem v_X9_writeForm : vOk k_X9_writeForm 0 9 := ⟨m_X9_writeForm, gw_in (List.mem_of_getElem? (i := 915) (by decide +kernel)) (by decide +kernel), gw_sel (List.mem_of_getElem? (i := 37) (by decide +kernel)) (by decide +kernel), ⟨_, rfl, rfl⟩⟩
theorem m_X9_writeRow : mOk k_X9_writeRow 1 := ⟨gw_in (List.mem_of_getElem? (i := 928) (by decide +kernel)) (by decide +kernel), ini_RX9, ⟨by decide +kernel, by decide +kernel, by decide +kernel⟩, by decide⟩
theorem v_X9_writeRow : vOk k_X9_writeRow 1 9 := ⟨m_X9_writeRow, gw_in (List.mem_of_getElem? (i := 927) (by decide +kernel)) (by decide +kernel), gw_sel (List.mem_of_getElem? (i := 38) (by decide +kernel)) (by decide +kernel), ⟨_, rfl, rfl⟩⟩
theorem m_X10_isIn : mOk k_X10_isIn 3 := ⟨gw_in (List.mem_of_getElem? (i := 1158) (by decide +kernel)) (by decide +kernel), ini_RX10, ⟨by decide +kernel, by decide +kernel, by decide +kernel⟩, by decide⟩
theorem s_X10_isIn : sOk k_X10_isIn 3 := ⟨m_X10_isIn, gw_in (List.mem_of_getElem? (i := 1157) (by decide +kernel)) (by decide +kernel)⟩
theorem m_X10_greater : mOk k_X10_greater 2 := ⟨gw_in (List.mem_of_getElem? (i := 1213) (by decide +kernel)) (by decide +kernel), ini_RX10, ⟨by decide +kernel, by decide +kernel, by decide +kernel⟩, by decide⟩
theorem s_X10_greater : sOk k_X10_greater 2 := ⟨m_X10_greater, gw_in (List.mem_of_getElem? (i := 1212) (by decide +kernel)) (by decide +kernel)⟩
theorem m_X10_lesser : mOk k_X10_lesser 2 := ⟨gw_in (List.mem_of_getElem? (i := 1269) (by decide +kernel)) (by decide +kernel), ini_RX10, ⟨by decide +kernel, by decide +kernel, by decide +kernel⟩, by decide⟩
theorem s_X10_lesser : sOk k_X10_lesser 2 := ⟨m_X10_lesser, gw_in (List.mem_of_getElem? (i := 1268) (by decide +kernel)) (by decide +kernel)⟩
theorem m_X10_init : mOk k_X10_init 0 := ⟨gw_in (List.mem_of_getElem? (i := 1030) (by decide +kernel)) (by decide +kernel), ini_RX10, ⟨by decide +kernel, by decide +kernel, by decide +kernel⟩, by decide⟩
theorem i_X10_init : iOk k_X10_init 0 := ⟨m_X10_init, gw_in (List.mem_of_getElem? (i := 1029) (by decide +kernel)) (by decide +kernel), rfl, rfl⟩
theorem m_X10_copies : mOk k_X10_copies 5 := ⟨gw_in (List.mem_of_getElem? (i := 1190) (by decide +kernel)) (by decide +kernel), ini_RX10, ⟨by decide +kernel, by decide +kernel, by decide +kernel⟩, by decide⟩
theorem s_X10_copies : sOk k_X10_copies 5 := ⟨m_X10_copies, gw_in (List.mem_of_getElem? (i := 1189) (by decide +kernel)) (by decide +kernel)⟩
theorem m_X10_notes : mOk k_X10_notes 0 := ⟨gw_in (List.mem_of_getElem? (i := 1187) (by decide +kernel)) (by decide +kernel), ini_RX10, ⟨by decide +kernel, by decide +kernel, by decide +kernel⟩, by decide⟩
theorem v_X10_notes : vOk k_X10_notes 0 10 := ⟨m_X10_notes, gw_in (List.mem_of_getElem? (i := 1186) (by decide +kernel)) (by decide +kernel), gw_sel (List.mem_of_getElem? (i := 51) (by decide +kernel)) (by decide +kernel), ⟨_, rfl, rfl⟩⟩
theorem m_X10_rowAt : mOk k_X10_rowAt 1 := ⟨gw_in (List.mem_of_getElem? (i := 1179) (by decide +kernel)) (by decide +kernel), ini_RX10, ⟨by decide +kernel, by decide +kernel, by decide +kernel⟩, by decide⟩
theorem s_X10_rowAt : sOk k_X10_rowAt 1 := ⟨m_X10_rowAt, gw_in (List.mem_of_getElem? (i := 1178) (by decide +kernel)) (by decide +kernel)⟩
theorem m_X10_rowLong : mOk k_X10_rowLong 1 := ⟨gw_in (List.mem_of_getElem? (i := 1202) (by decide +kernel)) (by decide +kernel), ini_RX10, ⟨by decide +kernel, by decide +kernel, by decide +kernel⟩, by decide⟩
theorem v_X10_rowLong : vOk k_X10_rowLong 1 10 := ⟨m_X10_rowLong, gw_in (List.mem_of_getElem? (i := 1201) (by decide +kernel)) (by decide +kernel), gw_sel (List.mem_of_getElem? (i := 54) (by decide +kernel)) (by decide +kernel), ⟨_, rfl, rfl⟩⟩
theorem m_X10_inRow : mOk k_X10_inRow 2 := ⟨gw_in (List.mem_of_getElem? (i := 1210) (by decide +kernel)) (by decide +kernel), ini_RX10, ⟨by decide +kernel, by decide +kernel, by decide +kernel⟩, by decide⟩
theorem v_X10_inRow : vOk k_X10_inRow 2 10 := ⟨m_X10_inRow, gw_in (List.mem_of_getElem? (i := 1209) (by decide +kernel)) (by decide +kernel), gw_sel (List.mem_of_getElem? (i := 56) (by decide +kernel)) (by decide +kernel), ⟨_, rfl, rfl⟩⟩
theorem m_X10_isSign : mOk k_X10_isSign 1 := ⟨gw_in (List.mem_of_getElem? (i := 1249) (by decide +kernel)) (by decide +kernel), ini_RX10, ⟨by decide +kernel, by decide +kernel, by decide +kernel⟩, by decide⟩
theorem v_X10_isSign : vOk k_X10_isSign 1 10 := ⟨m_X10_isSign, gw_in (List.mem_of_getElem? (i := 1248) (by decide +kernel)) (by decide +kernel), gw_sel (List.mem_of_getElem? (i := 63) (by decide +kernel)) (by decide +kernel), ⟨_, rfl, rfl⟩⟩
theorem m_X10_many : mOk k_X10_many 0 := ⟨gw_in (List.mem_of_getElem? (i := 1217) (by decide +kernel)) (by decide +kernel), ini_RX10, ⟨by decide +kernel, by decide +kernel, by decide +kernel⟩, by decide⟩
theorem v_X10_many : vOk k_X10_many 0 10 := ⟨m_X10_many, gw_in (List.mem_of_getElem? (i := 1216) (by decide +kernel)) (by decide +kernel), gw_sel (List.mem_of_getElem? (i := 57) (by decide +kernel)) (by decide +kernel), ⟨_, rfl, rfl⟩⟩
theorem m_X10_signAt : mOk k_X10_signAt 1 := ⟨gw_in (List.mem_of_getElem? (i := 1221) (by decide +kernel)) (by decide +kernel), ini_RX10, ⟨by decide +kernel, by decide +kernel, by decide +kernel⟩, by decide⟩
theorem v_X10_signAt : vOk k_X10_signAt 1 10 := ⟨m_X10_signAt, gw_in (List.mem_of_getElem? (i := 1220) (by decide +kernel)) (by decide +kernel), gw_sel (List.mem_of_getElem? (i := 58) (by decide +kernel)) (by decide +kernel), ⟨_, rfl, rfl⟩⟩
theorem m_X10_laysWords : mOk k_X10_laysWords 0 := ⟨gw_in (List.mem_of_getElem? (i := 1198) (by decide +kernel)) (by decide +kernel), ini_RX10, ⟨by decide +kernel, by decide +kernel, by decide +kernel⟩, by decide⟩
theorem v_X10_laysWords : vOk k_X10_laysWords 0 10 := ⟨m_X10_laysWords, gw_in (List.mem_of_getElem? (i := 1197) (by decide +kernel)) (by decide +kernel), gw_sel (List.mem_of_getElem? (i := 53) (by decide +kernel)) (by decide +kernel), ⟨_, rfl, rfl⟩⟩
theorem m_X10_laysWord : mOk k_X10_laysWord 1 := ⟨gw_in (List.mem_of_getElem? (i := 1206) (by decide +kernel)) (by decide +kernel), ini_RX10, ⟨by decide +kernel, by decide +kernel, by decide +kernel⟩, by decide⟩
theorem v_X10_laysWord : vOk k_X10_laysWord 1 10 := ⟨m_X10_laysWord, gw_in (List.mem_of_getElem? (i := 1205) (by decide +kernel)) (by decide +kernel), gw_sel (List.mem_of_getElem? (i := 55) (by decide +kernel)) (by decide +kernel), ⟨_, rfl, rfl⟩⟩
theorem m_X10_laysText : mOk k_X10_laysText 0 := ⟨gw_in (List.mem_of_getElem? (i := 1295) (by decide +kernel)) (by decide +kernel), ini_RX10, ⟨by decide +kernel, by decide +kernel, by decide +kernel⟩, by decide⟩
theorem v_X10_laysText : vOk k_X10_laysText 0 10 := ⟨m_X10_laysText, gw_in (List.mem_of_getElem? (i := 1294) (by decide +kernel)) (by decide +kernel), gw_sel (List.mem_of_getElem? (i := 70) (by decide +kernel)) (by decide +kernel), ⟨_, rfl, rfl⟩⟩
theorem m_X10_laysOut : mOk k_X10_laysOut 2 := ⟨gw_in (List.mem_of_getElem? (i := 1299) (by decide +kernel)) (by decide +kernel), ini_RX10, ⟨by decide +kernel, by decide +kernel, by decide +kernel⟩, by decide⟩
theorem v_X10_laysOut : vOk k_X10_laysOut 2 10 := ⟨m_X10_laysOut, gw_in (List.mem_of_getElem? (i := 1298) (by decide +kernel)) (by decide +kernel), gw_sel (List.mem_of_getElem? (i := 71) (by decide +kernel)) (by decide +kernel), ⟨_, rfl, rfl⟩⟩
theorem m_X10_lettersMany : mOk k_X10_lettersMany 0 := ⟨gw_in (List.mem_of_getElem? (i := 1194) (by decide +kernel)) (by decide +kernel), ini_RX10, ⟨by decide +kernel, by decide +kernel, by decide +kernel⟩, by decide⟩
theorem v_X10_lettersMany : vOk k_X10_lettersMany 0 10 := ⟨m_X10_lettersMany, gw_in (List.mem_of_getElem? (i := 1193) (by decide +kernel)) (by decide +kernel), gw_sel (List.mem_of_getElem? (i := 52) (by decide +kernel)) (by decide +kernel), ⟨_, rfl, rfl⟩⟩
theorem m_X10_feed : mOk k_X10_feed 5 := ⟨gw_in (List.mem_of_getElem? (i := 1151) (by decide +kernel)) (by decide +kernel), ini_RX10, ⟨by decide +kernel, by decide +kernel, by decide +kernel⟩, by decide⟩
theorem v_X10_feed : vOk k_X10_feed 5 10 := ⟨m_X10_feed, gw_in (List.mem_of_getElem? (i := 1149) (by decide +kernel)) (by decide +kernel), gw_in (List.mem_of_getElem? (i := 1150) (by decide +kernel)) (by decide +kernel), ⟨_, rfl, rfl⟩⟩
theorem m_X10_takes : mOk k_X10_takes 3 := ⟨gw_in (List.mem_of_getElem? (i := 1285) (by decide +kernel)) (by decide +kernel), ini_RX10, ⟨by decide +kernel, by decide +kernel, by decide +kernel⟩, by decide⟩
theorem v_X10_takes : vOk k_X10_takes 3 10 := ⟨m_X10_takes, gw_in (List.mem_of_getElem? (i := 1284) (by decide +kernel)) (by decide +kernel), gw_sel (List.mem_of_getElem? (i := 69) (by decide +kernel)) (by decide +kernel), ⟨_, rfl, rfl⟩⟩
theorem m_X10_fails : mOk k_X10_fails 2 := ⟨gw_in (List.mem_of_getElem? (i := 1170) (by decide +kernel)) (by decide +kernel), ini_RX10, ⟨by decide +kernel, by decide +kernel, by decide +kernel⟩, by decide⟩
theorem v_X10_fails : vOk k_X10_fails 2 10 := ⟨m_X10_fails, gw_in (List.mem_of_getElem? (i := 1169) (by decide +kernel)) (by decide +kernel), gw_sel (List.mem_of_getElem? (i := 48) (by decide +kernel)) (by decide +kernel), ⟨_, rfl, rfl⟩⟩
theorem m_X10_nextByte : mOk k_X10_nextByte 2 := ⟨gw_in (List.mem_of_getElem? (i := 1166) (by decide +kernel)) (by decide +kernel), ini_RX10, ⟨by decide +kernel, by decide +kernel, by decide +kernel⟩, by decide⟩
theorem v_X10_nextByte : vOk k_X10_nextByte 2 10 := ⟨m_X10_nextByte, gw_in (List.mem_of_getElem? (i := 1165) (by decide +kernel)) (by decide +kernel), gw_sel (List.mem_of_getElem? (i := 47) (by decide +kernel)) (by decide +kernel), ⟨_, rfl, rfl⟩⟩
theorem m_X10_nextSigns : mOk k_X10_nextSigns 2 := ⟨gw_in (List.mem_of_getElem? (i := 1183) (by decide +kernel)) (by decide +kernel), ini_RX10, ⟨by decide +kernel, by decide +kernel, by decide +kernel⟩, by decide⟩
theorem v_X10_nextSigns : vOk k_X10_nextSigns 2 10 := ⟨m_X10_nextSigns, gw_in (List.mem_of_getElem? (i := 1182) (by decide +kernel)) (by decide +kernel), gw_sel (List.mem_of_getElem? (i := 50) (by decide +kernel)) (by decide +kernel), ⟨_, rfl, rfl⟩⟩
theorem m_X10_nextRule : mOk k_X10_nextRule 0 := ⟨gw_in (List.mem_of_getElem? (i := 1174) (by decide +kernel)) (by decide +kernel), ini_RX10, ⟨by decide +kernel, by decide +kernel, by decide +kernel⟩, by decide⟩
theorem v_X10_nextRule : vOk k_X10_nextRule 0 10 := ⟨m_X10_nextRule, gw_in (List.mem_of_getElem? (i := 1173) (by decide +kernel)) (by decide +kernel), gw_sel (List.mem_of_getElem? (i := 49) (by decide +kernel)) (by decide +kernel), ⟨_, rfl, rfl⟩⟩
theorem m_X10_readsForm : mOk k_X10_readsForm 0 := ⟨gw_in (List.mem_of_getElem? (i := 1162) (by decide +kernel)) (by decide +kernel), ini_RX10, ⟨by decide +kernel, by decide +kernel, by decide +kernel⟩, by decide⟩
theorem v_X10_readsForm : vOk k_X10_readsForm 0 10 := ⟨m_X10_readsForm, gw_in (List.mem_of_getElem? (i := 1161) (by decide +kernel)) (by decide +kernel), gw_sel (List.mem_of_getElem? (i := 46) (by decide +kernel)) (by decide +kernel), ⟨_, rfl, rfl⟩⟩
theorem m_X10_load : mOk k_X10_load 1 := ⟨gw_in (List.mem_of_getElem? (i := 1155) (by decide +kernel)) (by decide +kernel), ini_RX10, ⟨by decide +kernel, by decide +kernel, by decide +kernel⟩, by decide⟩
theorem v_X10_load : vOk k_X10_load 1 10 := ⟨m_X10_load, gw_in (List.mem_of_getElem? (i := 1153) (by decide +kernel)) (by decide +kernel), gw_in (List.mem_of_getElem? (i := 1154) (by decide +kernel)) (by decide +kernel), ⟨_, rfl, rfl⟩⟩
theorem m_X10_tells : mOk k_X10_tells 1 := ⟨gw_in (List.mem_of_getElem? (i := 1237) (by decide +kernel)) (by decide +kernel), ini_RX10, ⟨by decide +kernel, by decide +kernel, by decide +kernel⟩, by decide⟩
theorem v_X10_tells : vOk k_X10_tells 1 10 := ⟨m_X10_tells, gw_in (List.mem_of_getElem? (i := 1236) (by decide +kernel)) (by decide +kernel), gw_sel (List.mem_of_getElem? (i := 61) (by decide +kernel)) (by decide +kernel), ⟨_, rfl, rfl⟩⟩
theorem m_X10_nextTold : mOk k_X10_nextTold 0 := ⟨gw_in (List.mem_of_getElem? (i := 1241) (by decide +kernel)) (by decide +kernel), ini_RX10, ⟨by decide +kernel, by decide +kernel, by decide +kernel⟩, by decide⟩
theorem v_X10_nextTold : vOk k_X10_nextTold 0 10 := ⟨m_X10_nextTold, gw_in (List.mem_of_getElem? (i := 1240) (by decide +kernel)) (by decide +kernel), gw_sel (List.mem_of_getElem? (i := 62) (by decide +kernel)) (by decide +kernel), ⟨_, rfl, rfl⟩⟩
theorem m_X10_laysForm : mOk k_X10_laysForm 0 := ⟨gw_in (List.mem_of_getElem? (i := 1229) (by decide +kernel)) (by decide +kernel), ini_RX10, ⟨by decide +kernel, by decide +kernel, by decide +kernel⟩, by decide⟩
theorem v_X10_laysForm : vOk k_X10_laysForm 0 10 := ⟨m_X10_laysForm, gw_in (List.mem_of_getElem? (i := 1228) (by decide +kernel)) (by decide +kernel), gw_sel (List.mem_of_getElem? (i := 59) (by decide +kernel)) (by decide +kernel), ⟨_, rfl, rfl⟩⟩
theorem m_X10_form : mOk k_X10_form 1 := ⟨gw_in (List.mem_of_getElem? (i := 1225) (by decide +kernel)) (by decide +kernel), ini_RX10, ⟨by decide +kernel, by decide +kernel, by decide +kernel⟩, by decide⟩
theorem v_X10_form : vOk k_X10_form 1 10 := ⟨m_X10_form, gw_in (List.mem_of_getElem? (i := 1223) (by decide +kernel)) (by decide +kernel), gw_in (List.mem_of_getElem? (i := 1224) (by decide +kernel)) (by decide +kernel), ⟨_, rfl, rfl⟩⟩
theorem m_X10_lightest : mOk k_X10_lightest 1 := ⟨gw_in (List.mem_of_getElem? (i := 1262) (by decide +kernel)) (by decide +kernel), ini_RX10, ⟨by decide +kernel, by decide +kernel, by decide +kernel⟩, by decide⟩
theorem v_X10_lightest : vOk k_X10_lightest 1 10 := ⟨m_X10_lightest, gw_in (List.mem_of_getElem? (i := 1261) (by decide +kernel)) (by decide +kernel), gw_sel (List.mem_of_getElem? (i := 66) (by decide +kernel)) (by decide +kernel), ⟨_, rfl, rfl⟩⟩
theorem m_X10_laysCodes : mOk k_X10_laysCodes 0 := ⟨gw_in (List.mem_of_getElem? (i := 1254) (by decide +kernel)) (by decide +kernel), ini_RX10, ⟨by decide +kernel, by decide +kernel, by decide +kernel⟩, by decide⟩
theorem v_X10_laysCodes : vOk k_X10_laysCodes 0 10 := ⟨m_X10_laysCodes, gw_in (List.mem_of_getElem? (i := 1253) (by decide +kernel)) (by decide +kernel), gw_sel (List.mem_of_getElem? (i := 64) (by decide +kernel)) (by decide +kernel), ⟨_, rfl, rfl⟩⟩
theorem m_X10_joins : mOk k_X10_joins 2 := ⟨gw_in (List.mem_of_getElem? (i := 1266) (by decide +kernel)) (by decide +kernel), ini_RX10, ⟨by decide +kernel, by decide +kernel, by decide +kernel⟩, by decide⟩
theorem v_X10_joins : vOk k_X10_joins 2 10 := ⟨m_X10_joins, gw_in (List.mem_of_getElem? (i := 1265) (by decide +kernel)) (by decide +kernel), gw_sel (List.mem_of_getElem? (i := 67) (by decide +kernel)) (by decide +kernel), ⟨_, rfl, rfl⟩⟩
theorem m_X10_ranksCodes : mOk k_X10_ranksCodes 0 := ⟨gw_in (List.mem_of_getElem? (i := 1273) (by decide +kernel)) (by decide +kernel), ini_RX10, ⟨by decide +kernel, by decide +kernel, by decide +kernel⟩, by decide⟩
theorem v_X10_ranksCodes : vOk k_X10_ranksCodes 0 10 := ⟨m_X10_ranksCodes, gw_in (List.mem_of_getElem? (i := 1272) (by decide +kernel)) (by decide +kernel), gw_sel (List.mem_of_getElem? (i := 68) (by decide +kernel)) (by decide +kernel), ⟨_, rfl, rfl⟩⟩
theorem m_X10_code : mOk k_X10_code 2 := ⟨gw_in (List.mem_of_getElem? (i := 1245) (by decide +kernel)) (by decide +kernel), ini_RX10, ⟨by decide +kernel, by decide +kernel, by decide +kernel⟩, by decide⟩
theorem v_X10_code : vOk k_X10_code 2 10 := ⟨m_X10_code, gw_in (List.mem_of_getElem? (i := 1243) (by decide +kernel)) (by decide +kernel), gw_in (List.mem_of_getElem? (i := 1244) (by decide +kernel)) (by decide +kernel), ⟨_, rfl, rfl⟩⟩
theorem m_X10_coded : mOk k_X10_coded 1 := ⟨gw_in (List.mem_of_getElem? (i := 1277) (by decide +kernel)) (by decide +kernel), ini_RX10, ⟨by decide +kernel, by decide +kernel, by decide +kernel⟩, by decide⟩
theorem v_X10_coded : vOk k_X10_coded 1 10 := ⟨m_X10_coded, gw_in (List.mem_of_getElem? (i := 1275) (by decide +kernel)) (by decide +kernel), gw_in (List.mem_of_getElem? (i := 1276) (by decide +kernel)) (by decide +kernel), ⟨_, rfl, rfl⟩⟩
theorem m_X10_bitsAll : mOk k_X10_bitsAll 0 := ⟨gw_in (List.mem_of_getElem? (i := 1558) (by decide +kernel)) (by decide +kernel), ini_RX10, ⟨by decide +kernel, by decide +kernel, by decide +kernel⟩, by decide⟩
theorem v_X10_bitsAll : vOk k_X10_bitsAll 0 10 := ⟨m_X10_bitsAll, gw_in (List.mem_of_getElem? (i := 1557) (by decide +kernel)) (by decide +kernel), gw_sel (List.mem_of_getElem? (i := 99) (by decide +kernel)) (by decide +kernel), ⟨_, rfl, rfl⟩⟩
theorem m_X10_text : mOk k_X10_text 1 := ⟨gw_in (List.mem_of_getElem? (i := 1281) (by decide +kernel)) (by decide +kernel), ini_RX10, ⟨by decide +kernel, by decide +kernel, by decide +kernel⟩, by decide⟩
theorem v_X10_text : vOk k_X10_text 1 10 := ⟨m_X10_text, gw_in (List.mem_of_getElem? (i := 1279) (by decide +kernel)) (by decide +kernel), gw_in (List.mem_of_getElem? (i := 1280) (by decide +kernel)) (by decide +kernel), ⟨_, rfl, rfl⟩⟩
theorem m_X10_phrase : mOk k_X10_phrase 1 := ⟨gw_in (List.mem_of_getElem? (i := 1291) (by decide +kernel)) (by decide +kernel), ini_RX10, ⟨by decide +kernel, by decide +kernel, by decide +kernel⟩, by decide⟩
theorem v_X10_phrase : vOk k_X10_phrase 1 10 := ⟨m_X10_phrase, gw_in (List.mem_of_getElem? (i := 1289) (by decide +kernel)) (by decide +kernel), gw_in (List.mem_of_getElem? (i := 1290) (by decide +kernel)) (by decide +kernel), ⟨_, rfl, rfl⟩⟩
theorem m_X10_fault : mOk k_X10_fault 1 := ⟨gw_in (List.mem_of_getElem? (i := 1311) (by decide +kernel)) (by decide +kernel), ini_RX10, ⟨by decide +kernel, by decide +kernel, by decide +kernel⟩, by decide⟩
theorem v_X10_fault : vOk k_X10_fault 1 10 := ⟨m_X10_fault, gw_in (List.mem_of_getElem? (i := 1309) (by decide +kernel)) (by decide +kernel), gw_in (List.mem_of_getElem? (i := 1310) (by decide +kernel)) (by decide +kernel), ⟨_, rfl, rfl⟩⟩
theorem m_X10_countOf : mOk k_X10_countOf 2 := ⟨gw_in (List.mem_of_getElem? (i := 1351) (by decide +kernel)) (by decide +kernel), ini_RX10, ⟨by decide +kernel, by decide +kernel, by decide +kernel⟩, by decide⟩
theorem v_X10_countOf : vOk k_X10_countOf 2 10 := ⟨m_X10_countOf, gw_in (List.mem_of_getElem? (i := 1350) (by decide +kernel)) (by decide +kernel), gw_sel (List.mem_of_getElem? (i := 80) (by decide +kernel)) (by decide +kernel), ⟨_, rfl, rfl⟩⟩
theorem m_X10_ruleOf : mOk k_X10_ruleOf 2 := ⟨gw_in (List.mem_of_getElem? (i := 1331) (by decide +kernel)) (by decide +kernel), ini_RX10, ⟨by decide +kernel, by decide +kernel, by decide +kernel⟩, by decide⟩
theorem v_X10_ruleOf : vOk k_X10_ruleOf 2 10 := ⟨m_X10_ruleOf, gw_in (List.mem_of_getElem? (i := 1330) (by decide +kernel)) (by decide +kernel), gw_sel (List.mem_of_getElem? (i := 77) (by decide +kernel)) (by decide +kernel), ⟨_, rfl, rfl⟩⟩
theorem m_X10_freeSign : mOk k_X10_freeSign 0 := ⟨gw_in (List.mem_of_getElem? (i := 1335) (by decide +kernel)) (by decide +kernel), ini_RX10, ⟨by decide +kernel, by decide +kernel, by decide +kernel⟩, by decide⟩
theorem v_X10_freeSign : vOk k_X10_freeSign 0 10 := ⟨m_X10_freeSign, gw_in (List.mem_of_getElem? (i := 1334) (by decide +kernel)) (by decide +kernel), gw_sel (List.mem_of_getElem? (i := 78) (by decide +kernel)) (by decide +kernel), ⟨_, rfl, rfl⟩⟩
theorem m_X10_canReplace : mOk k_X10_canReplace 2 := ⟨gw_in (List.mem_of_getElem? (i := 1327) (by decide +kernel)) (by decide +kernel), ini_RX10, ⟨by decide +kernel, by decide +kernel, by decide +kernel⟩, by decide⟩
theorem v_X10_canReplace : vOk k_X10_canReplace 2 10 := ⟨m_X10_canReplace, gw_in (List.mem_of_getElem? (i := 1326) (by decide +kernel)) (by decide +kernel), gw_sel (List.mem_of_getElem? (i := 76) (by decide +kernel)) (by decide +kernel), ⟨_, rfl, rfl⟩⟩
theorem m_X10_replaces : mOk k_X10_replaces 2 := ⟨gw_in (List.mem_of_getElem? (i := 1339) (by decide +kernel)) (by decide +kernel), ini_RX10, ⟨by decide +kernel, by decide +kernel, by decide +kernel⟩, by decide⟩
theorem v_X10_replaces : vOk k_X10_replaces 2 10 := ⟨m_X10_replaces, gw_in (List.mem_of_getElem? (i := 1338) (by decide +kernel)) (by decide +kernel), gw_sel (List.mem_of_getElem? (i := 79) (by decide +kernel)) (by decide +kernel), ⟨_, rfl, rfl⟩⟩
theorem m_X10_laysCounts : mOk k_X10_laysCounts 0 := ⟨gw_in (List.mem_of_getElem? (i := 1323) (by decide +kernel)) (by decide +kernel), ini_RX10, ⟨by decide +kernel, by decide +kernel, by decide +kernel⟩, by decide⟩
theorem v_X10_laysCounts : vOk k_X10_laysCounts 0 10 := ⟨m_X10_laysCounts, gw_in (List.mem_of_getElem? (i := 1322) (by decide +kernel)) (by decide +kernel), gw_sel (List.mem_of_getElem? (i := 75) (by decide +kernel)) (by decide +kernel), ⟨_, rfl, rfl⟩⟩
theorem m_X10_picked : mOk k_X10_picked 0 := ⟨gw_in (List.mem_of_getElem? (i := 1319) (by decide +kernel)) (by decide +kernel), ini_RX10, ⟨by decide +kernel, by decide +kernel, by decide +kernel⟩, by decide⟩
theorem v_X10_picked : vOk k_X10_picked 0 10 := ⟨m_X10_picked, gw_in (List.mem_of_getElem? (i := 1318) (by decide +kernel)) (by decide +kernel), gw_sel (List.mem_of_getElem? (i := 74) (by decide +kernel)) (by decide +kernel), ⟨_, rfl, rfl⟩⟩
theorem m_X10_step : mOk k_X10_step 0 := ⟨gw_in (List.mem_of_getElem? (i := 1315) (by decide +kernel)) (by decide +kernel), ini_RX10, ⟨by decide +kernel, by decide +kernel, by decide +kernel⟩, by decide⟩
theorem v_X10_step : vOk k_X10_step 0 10 := ⟨m_X10_step, gw_in (List.mem_of_getElem? (i := 1313) (by decide +kernel)) (by decide +kernel), gw_in (List.mem_of_getElem? (i := 1314) (by decide +kernel)) (by decide +kernel), ⟨_, rfl, rfl⟩⟩
theorem m_X10_pack : mOk k_X10_pack 0 := ⟨gw_in (List.mem_of_getElem? (i := 1343) (by decide +kernel)) (by decide +kernel), ini_RX10, ⟨by decide +kernel, by decide +kernel, by decide +kernel⟩, by decide⟩
theorem v_X10_pack : vOk k_X10_pack 0 10 := ⟨m_X10_pack, gw_in (List.mem_of_getElem? (i := 1341) (by decide +kernel)) (by decide +kernel), gw_in (List.mem_of_getElem? (i := 1342) (by decide +kernel)) (by decide +kernel), ⟨_, rfl, rfl⟩⟩
theorem m_X10_replace : mOk k_X10_replace 2 := ⟨gw_in (List.mem_of_getElem? (i := 1347) (by decide +kernel)) (by decide +kernel), ini_RX10, ⟨by decide +kernel, by decide +kernel, by decide +kernel⟩, by decide⟩
theorem v_X10_replace : vOk k_X10_replace 2 10 := ⟨m_X10_replace, gw_in (List.mem_of_getElem? (i := 1345) (by decide +kernel)) (by decide +kernel), gw_in (List.mem_of_getElem? (i := 1346) (by decide +kernel)) (by decide +kernel), ⟨_, rfl, rfl⟩⟩
theorem m_X10_inSequence : mOk k_X10_inSequence 1 := ⟨gw_in (List.mem_of_getElem? (i := 1258) (by decide +kernel)) (by decide +kernel), ini_RX10, ⟨by decide +kernel, by decide +kernel, by decide +kernel⟩, by decide⟩
theorem v_X10_inSequence : vOk k_X10_inSequence 1 10 := ⟨m_X10_inSequence, gw_in (List.mem_of_getElem? (i := 1257) (by decide +kernel)) (by decide +kernel), gw_sel (List.mem_of_getElem? (i := 65) (by decide +kernel)) (by decide +kernel), ⟨_, rfl, rfl⟩⟩
theorem m_X10_timesIn : mOk k_X10_timesIn 2 := ⟨gw_in (List.mem_of_getElem? (i := 1363) (by decide +kernel)) (by decide +kernel), ini_RX10, ⟨by decide +kernel, by decide +kernel, by decide +kernel⟩, by decide⟩
theorem v_X10_timesIn : vOk k_X10_timesIn 2 10 := ⟨m_X10_timesIn, gw_in (List.mem_of_getElem? (i := 1362) (by decide +kernel)) (by decide +kernel), gw_sel (List.mem_of_getElem? (i := 82) (by decide +kernel)) (by decide +kernel), ⟨_, rfl, rfl⟩⟩
theorem m_X10_usesOf : mOk k_X10_usesOf 1 := ⟨gw_in (List.mem_of_getElem? (i := 1387) (by decide +kernel)) (by decide +kernel), ini_RX10, ⟨by decide +kernel, by decide +kernel, by decide +kernel⟩, by decide⟩
theorem v_X10_usesOf : vOk k_X10_usesOf 1 10 := ⟨m_X10_usesOf, gw_in (List.mem_of_getElem? (i := 1386) (by decide +kernel)) (by decide +kernel), gw_sel (List.mem_of_getElem? (i := 87) (by decide +kernel)) (by decide +kernel), ⟨_, rfl, rfl⟩⟩
theorem m_X10_canGo : mOk k_X10_canGo 1 := ⟨gw_in (List.mem_of_getElem? (i := 1359) (by decide +kernel)) (by decide +kernel), ini_RX10, ⟨by decide +kernel, by decide +kernel, by decide +kernel⟩, by decide⟩
theorem v_X10_canGo : vOk k_X10_canGo 1 10 := ⟨m_X10_canGo, gw_in (List.mem_of_getElem? (i := 1358) (by decide +kernel)) (by decide +kernel), gw_sel (List.mem_of_getElem? (i := 81) (by decide +kernel)) (by decide +kernel), ⟨_, rfl, rfl⟩⟩
theorem m_X10_puts : mOk k_X10_puts 3 := ⟨gw_in (List.mem_of_getElem? (i := 1371) (by decide +kernel)) (by decide +kernel), ini_RX10, ⟨by decide +kernel, by decide +kernel, by decide +kernel⟩, by decide⟩
theorem v_X10_puts : vOk k_X10_puts 3 10 := ⟨m_X10_puts, gw_in (List.mem_of_getElem? (i := 1370) (by decide +kernel)) (by decide +kernel), gw_sel (List.mem_of_getElem? (i := 84) (by decide +kernel)) (by decide +kernel), ⟨_, rfl, rfl⟩⟩
theorem m_X10_drops : mOk k_X10_drops 1 := ⟨gw_in (List.mem_of_getElem? (i := 1367) (by decide +kernel)) (by decide +kernel), ini_RX10, ⟨by decide +kernel, by decide +kernel, by decide +kernel⟩, by decide⟩
theorem v_X10_drops : vOk k_X10_drops 1 10 := ⟨m_X10_drops, gw_in (List.mem_of_getElem? (i := 1366) (by decide +kernel)) (by decide +kernel), gw_sel (List.mem_of_getElem? (i := 83) (by decide +kernel)) (by decide +kernel), ⟨_, rfl, rfl⟩⟩
theorem m_X10_sizeNow : mOk k_X10_sizeNow 0 := ⟨gw_in (List.mem_of_getElem? (i := 1375) (by decide +kernel)) (by decide +kernel), ini_RX10, ⟨by decide +kernel, by decide +kernel, by decide +kernel⟩, by decide⟩
theorem v_X10_sizeNow : vOk k_X10_sizeNow 0 10 := ⟨m_X10_sizeNow, gw_in (List.mem_of_getElem? (i := 1374) (by decide +kernel)) (by decide +kernel), gw_sel (List.mem_of_getElem? (i := 85) (by decide +kernel)) (by decide +kernel), ⟨_, rfl, rfl⟩⟩
theorem m_X10_drop : mOk k_X10_drop 1 := ⟨gw_in (List.mem_of_getElem? (i := 1355) (by decide +kernel)) (by decide +kernel), ini_RX10, ⟨by decide +kernel, by decide +kernel, by decide +kernel⟩, by decide⟩
theorem v_X10_drop : vOk k_X10_drop 1 10 := ⟨m_X10_drop, gw_in (List.mem_of_getElem? (i := 1353) (by decide +kernel)) (by decide +kernel), gw_in (List.mem_of_getElem? (i := 1354) (by decide +kernel)) (by decide +kernel), ⟨_, rfl, rfl⟩⟩
theorem m_X10_idle : mOk k_X10_idle 0 := ⟨gw_in (List.mem_of_getElem? (i := 1383) (by decide +kernel)) (by decide +kernel), ini_RX10, ⟨by decide +kernel, by decide +kernel, by decide +kernel⟩, by decide⟩
theorem v_X10_idle : vOk k_X10_idle 0 10 := ⟨m_X10_idle, gw_in (List.mem_of_getElem? (i := 1382) (by decide +kernel)) (by decide +kernel), gw_sel (List.mem_of_getElem? (i := 86) (by decide +kernel)) (by decide +kernel), ⟨_, rfl, rfl⟩⟩
theorem m_X10_trim : mOk k_X10_trim 0 := ⟨gw_in (List.mem_of_getElem? (i := 1379) (by decide +kernel)) (by decide +kernel), ini_RX10, ⟨by decide +kernel, by decide +kernel, by decide +kernel⟩, by decide⟩
theorem v_X10_trim : vOk k_X10_trim 0 10 := ⟨m_X10_trim, gw_in (List.mem_of_getElem? (i := 1377) (by decide +kernel)) (by decide +kernel), gw_in (List.mem_of_getElem? (i := 1378) (by decide +kernel)) (by decide +kernel), ⟨_, rfl, rfl⟩⟩
theorem m_X10_unpack : mOk k_X10_unpack 0 := ⟨gw_in (List.mem_of_getElem? (i := 1391) (by decide +kernel)) (by decide +kernel), ini_RX10, ⟨by decide +kernel, by decide +kernel, by decide +kernel⟩, by decide⟩
theorem v_X10_unpack : vOk k_X10_unpack 0 10 := ⟨m_X10_unpack, gw_in (List.mem_of_getElem? (i := 1389) (by decide +kernel)) (by decide +kernel), gw_in (List.mem_of_getElem? (i := 1390) (by decide +kernel)) (by decide +kernel), ⟨_, rfl, rfl⟩⟩
theorem m_X10_opens : mOk k_X10_opens 1 := ⟨gw_in (List.mem_of_getElem? (i := 1399) (by decide +kernel)) (by decide +kernel), ini_RX10, ⟨by decide +kernel, by decide +kernel, by decide +kernel⟩, by decide⟩
theorem v_X10_opens : vOk k_X10_opens 1 10 := ⟨m_X10_opens, gw_in (List.mem_of_getElem? (i := 1398) (by decide +kernel)) (by decide +kernel), gw_sel (List.mem_of_getElem? (i := 88) (by decide +kernel)) (by decide +kernel), ⟨_, rfl, rfl⟩⟩
theorem m_X10_put : mOk k_X10_put 2 := ⟨gw_in (List.mem_of_getElem? (i := 1395) (by decide +kernel)) (by decide +kernel), ini_RX10, ⟨by decide +kernel, by decide +kernel, by decide +kernel⟩, by decide⟩
theorem v_X10_put : vOk k_X10_put 2 10 := ⟨m_X10_put, gw_in (List.mem_of_getElem? (i := 1393) (by decide +kernel)) (by decide +kernel), gw_in (List.mem_of_getElem? (i := 1394) (by decide +kernel)) (by decide +kernel), ⟨_, rfl, rfl⟩⟩
theorem m_X10_cut : mOk k_X10_cut 2 := ⟨gw_in (List.mem_of_getElem? (i := 1403) (by decide +kernel)) (by decide +kernel), ini_RX10, ⟨by decide +kernel, by decide +kernel, by decide +kernel⟩, by decide⟩
theorem v_X10_cut : vOk k_X10_cut 2 10 := ⟨m_X10_cut, gw_in (List.mem_of_getElem? (i := 1401) (by decide +kernel)) (by decide +kernel), gw_in (List.mem_of_getElem? (i := 1402) (by decide +kernel)) (by decide +kernel), ⟨_, rfl, rfl⟩⟩
theorem m_X10_insert : mOk k_X10_insert 2 := ⟨gw_in (List.mem_of_getElem? (i := 1407) (by decide +kernel)) (by decide +kernel), ini_RX10, ⟨by decide +kernel, by decide +kernel, by decide +kernel⟩, by decide⟩
theorem v_X10_insert : vOk k_X10_insert 2 10 := ⟨m_X10_insert, gw_in (List.mem_of_getElem? (i := 1405) (by decide +kernel)) (by decide +kernel), gw_in (List.mem_of_getElem? (i := 1406) (by decide +kernel)) (by decide +kernel), ⟨_, rfl, rfl⟩⟩
theorem m_X10_sign : mOk k_X10_sign 1 := ⟨gw_in (List.mem_of_getElem? (i := 1411) (by decide +kernel)) (by decide +kernel), ini_RX10, ⟨by decide +kernel, by decide +kernel, by decide +kernel⟩, by decide⟩
theorem v_X10_sign : vOk k_X10_sign 1 10 := ⟨m_X10_sign, gw_in (List.mem_of_getElem? (i := 1409) (by decide +kernel)) (by decide +kernel), gw_in (List.mem_of_getElem? (i := 1410) (by decide +kernel)) (by decide +kernel), ⟨_, rfl, rfl⟩⟩
theorem m_X10_rule : mOk k_X10_rule 2 := ⟨gw_in (List.mem_of_getElem? (i := 1415) (by decide +kernel)) (by decide +kernel), ini_RX10, ⟨by decide +kernel, by decide +kernel, by decide +kernel⟩, by decide⟩
theorem v_X10_rule : vOk k_X10_rule 2 10 := ⟨m_X10_rule, gw_in (List.mem_of_getElem? (i := 1413) (by decide +kernel)) (by decide +kernel), gw_in (List.mem_of_getElem? (i := 1414) (by decide +kernel)) (by decide +kernel), ⟨_, rfl, rfl⟩⟩
theorem m_X10_word : mOk k_X10_word 2 := ⟨gw_in (List.mem_of_getElem? (i := 1421) (by decide +kernel)) (by decide +kernel), ini_RX10, ⟨by decide +kernel, by decide +kernel, by decide +kernel⟩, by decide⟩
theorem v_X10_word : vOk k_X10_word 2 10 := ⟨m_X10_word, gw_in (List.mem_of_getElem? (i := 1419) (by decide +kernel)) (by decide +kernel), gw_in (List.mem_of_getElem? (i := 1420) (by decide +kernel)) (by decide +kernel), ⟨_, rfl, rfl⟩⟩
theorem m_X10_pairs : mOk k_X10_pairs 2 := ⟨gw_in (List.mem_of_getElem? (i := 1425) (by decide +kernel)) (by decide +kernel), ini_RX10, ⟨by decide +kernel, by decide +kernel, by decide +kernel⟩, by decide⟩
theorem v_X10_pairs : vOk k_X10_pairs 2 10 := ⟨m_X10_pairs, gw_in (List.mem_of_getElem? (i := 1423) (by decide +kernel)) (by decide +kernel), gw_in (List.mem_of_getElem? (i := 1424) (by decide +kernel)) (by decide +kernel), ⟨_, rfl, rfl⟩⟩
theorem m_X10_pick : mOk k_X10_pick 1 := ⟨gw_in (List.mem_of_getElem? (i := 1429) (by decide +kernel)) (by decide +kernel), ini_RX10, ⟨by decide +kernel, by decide +kernel, by decide +kernel⟩, by decide⟩
theorem v_X10_pick : vOk k_X10_pick 1 10 := ⟨m_X10_pick, gw_in (List.mem_of_getElem? (i := 1427) (by decide +kernel)) (by decide +kernel), gw_in (List.mem_of_getElem? (i := 1428) (by decide +kernel)) (by decide +kernel), ⟨_, rfl, rfl⟩⟩
theorem m_X10_at : mOk k_X10_at 1 := ⟨gw_in (List.mem_of_getElem? (i := 1433) (by decide +kernel)) (by decide +kernel), ini_RX10, ⟨by decide +kernel, by decide +kernel, by decide +kernel⟩, by decide⟩
theorem v_X10_at : vOk k_X10_at 1 10 := ⟨m_X10_at, gw_in (List.mem_of_getElem? (i := 1431) (by decide +kernel)) (by decide +kernel), gw_in (List.mem_of_getElem? (i := 1432) (by decide +kernel)) (by decide +kernel), ⟨_, rfl, rfl⟩⟩
theorem m_X10_seeks : mOk k_X10_seeks 1 := ⟨gw_in (List.mem_of_getElem? (i := 1442) (by decide +kernel)) (by decide +kernel), ini_RX10, ⟨by decide +kernel, by decide +kernel, by decide +kernel⟩, by decide⟩
theorem v_X10_seeks : vOk k_X10_seeks 1 10 := ⟨m_X10_seeks, gw_in (List.mem_of_getElem? (i := 1441) (by decide +kernel)) (by decide +kernel), gw_sel (List.mem_of_getElem? (i := 89) (by decide +kernel)) (by decide +kernel), ⟨_, rfl, rfl⟩⟩
theorem m_X10_within : mOk k_X10_within 2 := ⟨gw_in (List.mem_of_getElem? (i := 1437) (by decide +kernel)) (by decide +kernel), ini_RX10, ⟨by decide +kernel, by decide +kernel, by decide +kernel⟩, by decide⟩
theorem v_X10_within : vOk k_X10_within 2 10 := ⟨m_X10_within, gw_in (List.mem_of_getElem? (i := 1435) (by decide +kernel)) (by decide +kernel), gw_in (List.mem_of_getElem? (i := 1436) (by decide +kernel)) (by decide +kernel), ⟨_, rfl, rfl⟩⟩
theorem m_X10_way : mOk k_X10_way 2 := ⟨gw_in (List.mem_of_getElem? (i := 1446) (by decide +kernel)) (by decide +kernel), ini_RX10, ⟨by decide +kernel, by decide +kernel, by decide +kernel⟩, by decide⟩
theorem v_X10_way : vOk k_X10_way 2 10 := ⟨m_X10_way, gw_in (List.mem_of_getElem? (i := 1444) (by decide +kernel)) (by decide +kernel), gw_in (List.mem_of_getElem? (i := 1445) (by decide +kernel)) (by decide +kernel), ⟨_, rfl, rfl⟩⟩
theorem m_X10_ahead : mOk k_X10_ahead 2 := ⟨gw_in (List.mem_of_getElem? (i := 1450) (by decide +kernel)) (by decide +kernel), ini_RX10, ⟨by decide +kernel, by decide +kernel, by decide +kernel⟩, by decide⟩
theorem v_X10_ahead : vOk k_X10_ahead 2 10 := ⟨m_X10_ahead, gw_in (List.mem_of_getElem? (i := 1448) (by decide +kernel)) (by decide +kernel), gw_in (List.mem_of_getElem? (i := 1449) (by decide +kernel)) (by decide +kernel), ⟨_, rfl, rfl⟩⟩
theorem m_X10_where : mOk k_X10_where 2 := ⟨gw_in (List.mem_of_getElem? (i := 1454) (by decide +kernel)) (by decide +kernel), ini_RX10, ⟨by decide +kernel, by decide +kernel, by decide +kernel⟩, by decide⟩
theorem v_X10_where : vOk k_X10_where 2 10 := ⟨m_X10_where, gw_in (List.mem_of_getElem? (i := 1452) (by decide +kernel)) (by decide +kernel), gw_in (List.mem_of_getElem? (i := 1453) (by decide +kernel)) (by decide +kernel), ⟨_, rfl, rfl⟩⟩
theorem m_X10_commonOf : mOk k_X10_commonOf 2 := ⟨gw_in (List.mem_of_getElem? (i := 1466) (by decide +kernel)) (by decide +kernel), ini_RX10, ⟨by decide +kernel, by decide +kernel, by decide +kernel⟩, by decide⟩
theorem v_X10_commonOf : vOk k_X10_commonOf 2 10 := ⟨m_X10_commonOf, gw_in (List.mem_of_getElem? (i := 1465) (by decide +kernel)) (by decide +kernel), gw_sel (List.mem_of_getElem? (i := 91) (by decide +kernel)) (by decide +kernel), ⟨_, rfl, rfl⟩⟩
theorem m_X10_arePlaces : mOk k_X10_arePlaces 2 := ⟨gw_in (List.mem_of_getElem? (i := 1462) (by decide +kernel)) (by decide +kernel), ini_RX10, ⟨by decide +kernel, by decide +kernel, by decide +kernel⟩, by decide⟩
theorem v_X10_arePlaces : vOk k_X10_arePlaces 2 10 := ⟨m_X10_arePlaces, gw_in (List.mem_of_getElem? (i := 1461) (by decide +kernel)) (by decide +kernel), gw_sel (List.mem_of_getElem? (i := 90) (by decide +kernel)) (by decide +kernel), ⟨_, rfl, rfl⟩⟩
theorem m_X10_common : mOk k_X10_common 2 := ⟨gw_in (List.mem_of_getElem? (i := 1458) (by decide +kernel)) (by decide +kernel), ini_RX10, ⟨by decide +kernel, by decide +kernel, by decide +kernel⟩, by decide⟩
theorem v_X10_common : vOk k_X10_common 2 10 := ⟨m_X10_common, gw_in (List.mem_of_getElem? (i := 1456) (by decide +kernel)) (by decide +kernel), gw_in (List.mem_of_getElem? (i := 1457) (by decide +kernel)) (by decide +kernel), ⟨_, rfl, rfl⟩⟩
theorem m_X10_compare : mOk k_X10_compare 2 := ⟨gw_in (List.mem_of_getElem? (i := 1470) (by decide +kernel)) (by decide +kernel), ini_RX10, ⟨by decide +kernel, by decide +kernel, by decide +kernel⟩, by decide⟩
theorem v_X10_compare : vOk k_X10_compare 2 10 := ⟨m_X10_compare, gw_in (List.mem_of_getElem? (i := 1468) (by decide +kernel)) (by decide +kernel), gw_in (List.mem_of_getElem? (i := 1469) (by decide +kernel)) (by decide +kernel), ⟨_, rfl, rfl⟩⟩
theorem m_X10_print : mOk k_X10_print 2 := ⟨gw_in (List.mem_of_getElem? (i := 1474) (by decide +kernel)) (by decide +kernel), ini_RX10, ⟨by decide +kernel, by decide +kernel, by decide +kernel⟩, by decide⟩
theorem v_X10_print : vOk k_X10_print 2 10 := ⟨m_X10_print, gw_in (List.mem_of_getElem? (i := 1472) (by decide +kernel)) (by decide +kernel), gw_in (List.mem_of_getElem? (i := 1473) (by decide +kernel)) (by decide +kernel), ⟨_, rfl, rfl⟩⟩
theorem m_X10_laysTwice : mOk k_X10_laysTwice 0 := ⟨gw_in (List.mem_of_getElem? (i := 1483) (by decide +kernel)) (by decide +kernel), ini_RX10, ⟨by decide +kernel, by decide +kernel, by decide +kernel⟩, by decide⟩
theorem v_X10_laysTwice : vOk k_X10_laysTwice 0 10 := ⟨m_X10_laysTwice, gw_in (List.mem_of_getElem? (i := 1482) (by decide +kernel)) (by decide +kernel), gw_sel (List.mem_of_getElem? (i := 92) (by decide +kernel)) (by decide +kernel), ⟨_, rfl, rfl⟩⟩
theorem m_X10_repeat : mOk k_X10_repeat 0 := ⟨gw_in (List.mem_of_getElem? (i := 1479) (by decide +kernel)) (by decide +kernel), ini_RX10, ⟨by decide +kernel, by decide +kernel, by decide +kernel⟩, by decide⟩
theorem v_X10_repeat : vOk k_X10_repeat 0 10 := ⟨m_X10_repeat, gw_in (List.mem_of_getElem? (i := 1477) (by decide +kernel)) (by decide +kernel), gw_in (List.mem_of_getElem? (i := 1478) (by decide +kernel)) (by decide +kernel), ⟨_, rfl, rfl⟩⟩
theorem m_X10_repeatAt : mOk k_X10_repeatAt 0 := ⟨gw_in (List.mem_of_getElem? (i := 1487) (by decide +kernel)) (by decide +kernel), ini_RX10, ⟨by decide +kernel, by decide +kernel, by decide +kernel⟩, by decide⟩
theorem v_X10_repeatAt : vOk k_X10_repeatAt 0 10 := ⟨m_X10_repeatAt, gw_in (List.mem_of_getElem? (i := 1485) (by decide +kernel)) (by decide +kernel), gw_in (List.mem_of_getElem? (i := 1486) (by decide +kernel)) (by decide +kernel), ⟨_, rfl, rfl⟩⟩
theorem m_X10_isHit : mOk k_X10_isHit 1 := ⟨gw_in (List.mem_of_getElem? (i := 1307) (by decide +kernel)) (by decide +kernel), ini_RX10, ⟨by decide +kernel, by decide +kernel, by decide +kernel⟩, by decide⟩
theorem v_X10_isHit : vOk k_X10_isHit 1 10 := ⟨m_X10_isHit, gw_in (List.mem_of_getElem? (i := 1306) (by decide +kernel)) (by decide +kernel), gw_sel (List.mem_of_getElem? (i := 73) (by decide +kernel)) (by decide +kernel), ⟨_, rfl, rfl⟩⟩
theorem m_X10_hitsIn : mOk k_X10_hitsIn 0 := ⟨gw_in (List.mem_of_getElem? (i := 1303) (by decide +kernel)) (by decide +kernel), ini_RX10, ⟨by decide +kernel, by decide +kernel, by decide +kernel⟩, by decide⟩
theorem v_X10_hitsIn : vOk k_X10_hitsIn 0 10 := ⟨m_X10_hitsIn, gw_in (List.mem_of_getElem? (i := 1302) (by decide +kernel)) (by decide +kernel), gw_sel (List.mem_of_getElem? (i := 72) (by decide +kernel)) (by decide +kernel), ⟨_, rfl, rfl⟩⟩
theorem m_X10_hit : mOk k_X10_hit 1 := ⟨gw_in (List.mem_of_getElem? (i := 1491) (by decide +kernel)) (by decide +kernel), ini_RX10, ⟨by decide +kernel, by decide +kernel, by decide +kernel⟩, by decide⟩
theorem v_X10_hit : vOk k_X10_hit 1 10 := ⟨m_X10_hit, gw_in (List.mem_of_getElem? (i := 1489) (by decide +kernel)) (by decide +kernel), gw_in (List.mem_of_getElem? (i := 1490) (by decide +kernel)) (by decide +kernel), ⟨_, rfl, rfl⟩⟩
theorem m_X10_crossing : mOk k_X10_crossing 0 := ⟨gw_in (List.mem_of_getElem? (i := 1499) (by decide +kernel)) (by decide +kernel), ini_RX10, ⟨by decide +kernel, by decide +kernel, by decide +kernel⟩, by decide⟩
theorem v_X10_crossing : vOk k_X10_crossing 0 10 := ⟨m_X10_crossing, gw_in (List.mem_of_getElem? (i := 1498) (by decide +kernel)) (by decide +kernel), gw_sel (List.mem_of_getElem? (i := 93) (by decide +kernel)) (by decide +kernel), ⟨_, rfl, rfl⟩⟩
theorem m_X10_hits : mOk k_X10_hits 1 := ⟨gw_in (List.mem_of_getElem? (i := 1495) (by decide +kernel)) (by decide +kernel), ini_RX10, ⟨by decide +kernel, by decide +kernel, by decide +kernel⟩, by decide⟩
theorem v_X10_hits : vOk k_X10_hits 1 10 := ⟨m_X10_hits, gw_in (List.mem_of_getElem? (i := 1493) (by decide +kernel)) (by decide +kernel), gw_in (List.mem_of_getElem? (i := 1494) (by decide +kernel)) (by decide +kernel), ⟨_, rfl, rfl⟩⟩
theorem m_X10_gainOf : mOk k_X10_gainOf 2 := ⟨gw_in (List.mem_of_getElem? (i := 1507) (by decide +kernel)) (by decide +kernel), ini_RX10, ⟨by decide +kernel, by decide +kernel, by decide +kernel⟩, by decide⟩
theorem v_X10_gainOf : vOk k_X10_gainOf 2 10 := ⟨m_X10_gainOf, gw_in (List.mem_of_getElem? (i := 1506) (by decide +kernel)) (by decide +kernel), gw_sel (List.mem_of_getElem? (i := 94) (by decide +kernel)) (by decide +kernel), ⟨_, rfl, rfl⟩⟩
theorem m_X10_gain : mOk k_X10_gain 2 := ⟨gw_in (List.mem_of_getElem? (i := 1503) (by decide +kernel)) (by decide +kernel), ini_RX10, ⟨by decide +kernel, by decide +kernel, by decide +kernel⟩, by decide⟩
theorem v_X10_gain : vOk k_X10_gain 2 10 := ⟨m_X10_gain, gw_in (List.mem_of_getElem? (i := 1501) (by decide +kernel)) (by decide +kernel), gw_in (List.mem_of_getElem? (i := 1502) (by decide +kernel)) (by decide +kernel), ⟨_, rfl, rfl⟩⟩
theorem m_X10_leastBehind : mOk k_X10_leastBehind 1 := ⟨gw_in (List.mem_of_getElem? (i := 1515) (by decide +kernel)) (by decide +kernel), ini_RX10, ⟨by decide +kernel, by decide +kernel, by decide +kernel⟩, by decide⟩
theorem v_X10_leastBehind : vOk k_X10_leastBehind 1 10 := ⟨m_X10_leastBehind, gw_in (List.mem_of_getElem? (i := 1514) (by decide +kernel)) (by decide +kernel), gw_sel (List.mem_of_getElem? (i := 95) (by decide +kernel)) (by decide +kernel), ⟨_, rfl, rfl⟩⟩
theorem m_X10_isFirst : mOk k_X10_isFirst 1 := ⟨gw_in (List.mem_of_getElem? (i := 1519) (by decide +kernel)) (by decide +kernel), ini_RX10, ⟨by decide +kernel, by decide +kernel, by decide +kernel⟩, by decide⟩
theorem v_X10_isFirst : vOk k_X10_isFirst 1 10 := ⟨m_X10_isFirst, gw_in (List.mem_of_getElem? (i := 1518) (by decide +kernel)) (by decide +kernel), gw_sel (List.mem_of_getElem? (i := 96) (by decide +kernel)) (by decide +kernel), ⟨_, rfl, rfl⟩⟩
theorem m_X10_best : mOk k_X10_best 1 := ⟨gw_in (List.mem_of_getElem? (i := 1511) (by decide +kernel)) (by decide +kernel), ini_RX10, ⟨by decide +kernel, by decide +kernel, by decide +kernel⟩, by decide⟩
theorem v_X10_best : vOk k_X10_best 1 10 := ⟨m_X10_best, gw_in (List.mem_of_getElem? (i := 1509) (by decide +kernel)) (by decide +kernel), gw_in (List.mem_of_getElem? (i := 1510) (by decide +kernel)) (by decide +kernel), ⟨_, rfl, rfl⟩⟩
theorem m_X10_bitsOf : mOk k_X10_bitsOf 1 := ⟨gw_in (List.mem_of_getElem? (i := 1532) (by decide +kernel)) (by decide +kernel), ini_RX10, ⟨by decide +kernel, by decide +kernel, by decide +kernel⟩, by decide⟩
theorem s_X10_bitsOf : sOk k_X10_bitsOf 1 := ⟨m_X10_bitsOf, gw_in (List.mem_of_getElem? (i := 1531) (by decide +kernel)) (by decide +kernel)⟩
theorem m_X10_floatOf : mOk k_X10_floatOf 1 := ⟨gw_in (List.mem_of_getElem? (i := 1527) (by decide +kernel)) (by decide +kernel), ini_RX10, ⟨by decide +kernel, by decide +kernel, by decide +kernel⟩, by decide⟩
theorem v_X10_floatOf : vOk k_X10_floatOf 1 10 := ⟨m_X10_floatOf, gw_in (List.mem_of_getElem? (i := 1526) (by decide +kernel)) (by decide +kernel), gw_sel (List.mem_of_getElem? (i := 97) (by decide +kernel)) (by decide +kernel), ⟨_, rfl, rfl⟩⟩
theorem m_X10_bits : mOk k_X10_bits 1 := ⟨gw_in (List.mem_of_getElem? (i := 1523) (by decide +kernel)) (by decide +kernel), ini_RX10, ⟨by decide +kernel, by decide +kernel, by decide +kernel⟩, by decide⟩
theorem v_X10_bits : vOk k_X10_bits 1 10 := ⟨m_X10_bits, gw_in (List.mem_of_getElem? (i := 1521) (by decide +kernel)) (by decide +kernel), gw_in (List.mem_of_getElem? (i := 1522) (by decide +kernel)) (by decide +kernel), ⟨_, rfl, rfl⟩⟩
theorem m_X10_undo : mOk k_X10_undo 1 := ⟨gw_in (List.mem_of_getElem? (i := 1538) (by decide +kernel)) (by decide +kernel), ini_RX10, ⟨by decide +kernel, by decide +kernel, by decide +kernel⟩, by decide⟩
theorem v_X10_undo : vOk k_X10_undo 1 10 := ⟨m_X10_undo, gw_in (List.mem_of_getElem? (i := 1536) (by decide +kernel)) (by decide +kernel), gw_in (List.mem_of_getElem? (i := 1537) (by decide +kernel)) (by decide +kernel), ⟨_, rfl, rfl⟩⟩
theorem m_X10_image : mOk k_X10_image 1 := ⟨gw_in (List.mem_of_getElem? (i := 1542) (by decide +kernel)) (by decide +kernel), ini_RX10, ⟨by decide +kernel, by decide +kernel, by decide +kernel⟩, by decide⟩
theorem v_X10_image : vOk k_X10_image 1 10 := ⟨m_X10_image, gw_in (List.mem_of_getElem? (i := 1540) (by decide +kernel)) (by decide +kernel), gw_in (List.mem_of_getElem? (i := 1541) (by decide +kernel)) (by decide +kernel), ⟨_, rfl, rfl⟩⟩
theorem m_X10_restore : mOk k_X10_restore 1 := ⟨gw_in (List.mem_of_getElem? (i := 1546) (by decide +kernel)) (by decide +kernel), ini_RX10, ⟨by decide +kernel, by decide +kernel, by decide +kernel⟩, by decide⟩
theorem v_X10_restore : vOk k_X10_restore 1 10 := ⟨m_X10_restore, gw_in (List.mem_of_getElem? (i := 1544) (by decide +kernel)) (by decide +kernel), gw_in (List.mem_of_getElem? (i := 1545) (by decide +kernel)) (by decide +kernel), ⟨_, rfl, rfl⟩⟩
theorem m_X10_rulesMany : mOk k_X10_rulesMany 0 := ⟨gw_in (List.mem_of_getElem? (i := 1233) (by decide +kernel)) (by decide +kernel), ini_RX10, ⟨by decide +kernel, by decide +kernel, by decide +kernel⟩, by decide⟩
theorem v_X10_rulesMany : vOk k_X10_rulesMany 0 10 := ⟨m_X10_rulesMany, gw_in (List.mem_of_getElem? (i := 1232) (by decide +kernel)) (by decide +kernel), gw_sel (List.mem_of_getElem? (i := 60) (by decide +kernel)) (by decide +kernel), ⟨_, rfl, rfl⟩⟩
theorem m_X10_deepest : mOk k_X10_deepest 0 := ⟨gw_in (List.mem_of_getElem? (i := 1554) (by decide +kernel)) (by decide +kernel), ini_RX10, ⟨by decide +kernel, by decide +kernel, by decide +kernel⟩, by decide⟩
theorem v_X10_deepest : vOk k_X10_deepest 0 10 := ⟨m_X10_deepest, gw_in (List.mem_of_getElem? (i := 1553) (by decide +kernel)) (by decide +kernel), gw_sel (List.mem_of_getElem? (i := 98) (by decide +kernel)) (by decide +kernel), ⟨_, rfl, rfl⟩⟩
theorem m_X10_count : mOk k_X10_count 1 := ⟨gw_in (List.mem_of_getElem? (i := 1550) (by decide +kernel)) (by decide +kernel), ini_RX10, ⟨by decide +kernel, by decide +kernel, by decide +kernel⟩, by decide⟩
theorem v_X10_count : vOk k_X10_count 1 10 := ⟨m_X10_count, gw_in (List.mem_of_getElem? (i := 1548) (by decide +kernel)) (by decide +kernel), gw_in (List.mem_of_getElem? (i := 1549) (by decide +kernel)) (by decide +kernel), ⟨_, rfl, rfl⟩⟩
theorem m_J9_floorMod_7cf53 : mOk k_J9_floorMod_7cf53 2 := ⟨gw_in (List.mem_of_getElem? (i := 344) (by decide +kernel)) (by decide +kernel), ini_RJ9, ⟨by decide +kernel, by decide +kernel, by decide +kernel⟩, by decide⟩
theorem s_J9_floorMod_7cf53 : sOk k_J9_floorMod_7cf53 2 := ⟨m_J9_floorMod_7cf53, gw_in (List.mem_of_getElem? (i := 343) (by decide +kernel)) (by decide +kernel)⟩
theorem m_J9_max_7cf53 : mOk k_J9_max_7cf53 2 := ⟨gw_in (List.mem_of_getElem? (i := 409) (by decide +kernel)) (by decide +kernel), ini_RJ9, ⟨by decide +kernel, by decide +kernel, by decide +kernel⟩, by decide⟩
theorem s_J9_max_7cf53 : sOk k_J9_max_7cf53 2 := ⟨m_J9_max_7cf53, gw_in (List.mem_of_getElem? (i := 408) (by decide +kernel)) (by decide +kernel)⟩
theorem m_J9_min_7cf53 : mOk k_J9_min_7cf53 2 := ⟨gw_in (List.mem_of_getElem? (i := 347) (by decide +kernel)) (by decide +kernel), ini_RJ9, ⟨by decide +kernel, by decide +kernel, by decide +kernel⟩, by decide⟩
theorem s_J9_min_7cf53 : sOk k_J9_min_7cf53 2 := ⟨m_J9_min_7cf53, gw_in (List.mem_of_getElem? (i := 346) (by decide +kernel)) (by decide +kernel)⟩
theorem l_RL_9 : Cond.methodLink RL 9 yX9_init ∈ gw := gw_in (List.mem_of_getElem? (i := 16) (by decide +kernel)) (by decide +kernel)
theorem l_RX9_3 : Cond.methodLink RX9 3 Lib.objectInit ∈ gw := gw_in (List.mem_of_getElem? (i := 19) (by decide +kernel)) (by decide +kernel)
theorem l_RX9_11 : Cond.methodLink RX9 11 yX2_init ∈ gw := gw_in (List.mem_of_getElem? (i := 24) (by decide +kernel)) (by decide +kernel)
theorem l_RX2_3 : Cond.methodLink RX2 3 Lib.objectInit ∈ gw := gw_in (List.mem_of_getElem? (i := 27) (by decide +kernel)) (by decide +kernel)
theorem l_RX2_11 : Cond.methodLink RX2 11 yX6_init ∈ gw := gw_in (List.mem_of_getElem? (i := 30) (by decide +kernel)) (by decide +kernel)
theorem l_RX6_3 : Cond.methodLink RX6 3 Lib.objectInit ∈ gw := gw_in (List.mem_of_getElem? (i := 33) (by decide +kernel)) (by decide +kernel)
theorem l_RX9_18 : Cond.methodLink RX9 18 yX4_init ∈ gw := gw_in (List.mem_of_getElem? (i := 55) (by decide +kernel)) (by decide +kernel)
theorem l_RX4_3 : Cond.methodLink RX4 3 Lib.objectInit ∈ gw := gw_in (List.mem_of_getElem? (i := 58) (by decide +kernel)) (by decide +kernel)
theorem l_RX4_24 : Cond.methodLink RX4 24 yX2_init ∈ gw := gw_in (List.mem_of_getElem? (i := 61) (by decide +kernel)) (by decide +kernel)
theorem l_RX9_33 : Cond.methodLink RX9 33 yX6_init ∈ gw := gw_in (List.mem_of_getElem? (i := 73) (by decide +kernel)) (by decide +kernel)
theorem l_RX1_3 : Cond.methodLink RX1 3 Lib.objectInit ∈ gw := gw_in (List.mem_of_getElem? (i := 79) (by decide +kernel)) (by decide +kernel)
theorem l_RX1_11 : Cond.methodLink RX1 11 yX2_init ∈ gw := gw_in (List.mem_of_getElem? (i := 81) (by decide +kernel)) (by decide +kernel)
theorem l_RX1_24 : Cond.methodLink RX1 24 yX6_init ∈ gw := gw_in (List.mem_of_getElem? (i := 83) (by decide +kernel)) (by decide +kernel)
theorem l_RX8_3 : Cond.methodLink RX8 3 Lib.objectInit ∈ gw := gw_in (List.mem_of_getElem? (i := 112) (by decide +kernel)) (by decide +kernel)
theorem l_RX8_20 : Cond.methodLink RX8 20 yX6_init ∈ gw := gw_in (List.mem_of_getElem? (i := 114) (by decide +kernel)) (by decide +kernel)
theorem l_RX5_3 : Cond.methodLink RX5 3 Lib.objectInit ∈ gw := gw_in (List.mem_of_getElem? (i := 136) (by decide +kernel)) (by decide +kernel)
theorem l_RX5_11 : Cond.methodLink RX5 11 yX6_init ∈ gw := gw_in (List.mem_of_getElem? (i := 138) (by decide +kernel)) (by decide +kernel)
theorem l_RX3_3 : Cond.methodLink RX3 3 Lib.objectInit ∈ gw := gw_in (List.mem_of_getElem? (i := 166) (by decide +kernel)) (by decide +kernel)
theorem l_RX3_17 : Cond.methodLink RX3 17 yX6_init ∈ gw := gw_in (List.mem_of_getElem? (i := 168) (by decide +kernel)) (by decide +kernel)
theorem l_RX7_3 : Cond.methodLink RX7 3 Lib.objectInit ∈ gw := gw_in (List.mem_of_getElem? (i := 181) (by decide +kernel)) (by decide +kernel)
theorem l_RX7_27 : Cond.methodLink RX7 27 yX6_init ∈ gw := gw_in (List.mem_of_getElem? (i := 185) (by decide +kernel)) (by decide +kernel)
theorem l_RX0_3 : Cond.methodLink RX0 3 Lib.objectInit ∈ gw := gw_in (List.mem_of_getElem? (i := 204) (by decide +kernel)) (by decide +kernel)
theorem l_RX0_29 : Cond.methodLink RX0 29 yX6_init ∈ gw := gw_in (List.mem_of_getElem? (i := 206) (by decide +kernel)) (by decide +kernel)
theorem l_RL_13 : Cond.methodLink RL 13 yX9_feed ∈ gw := gw_in (List.mem_of_getElem? (i := 281) (by decide +kernel)) (by decide +kernel)
theorem l_RX9_105 : Cond.methodLink RX9 105 yX6_size ∈ gw := gw_in (List.mem_of_getElem? (i := 285) (by decide +kernel)) (by decide +kernel)
theorem l_RX9_109 : Cond.methodLink RX9 109 yX9_feedOne ∈ gw := gw_in (List.mem_of_getElem? (i := 289) (by decide +kernel)) (by decide +kernel)
theorem l_RX9_211 : Cond.methodLink RX9 211 yX6_add ∈ gw := gw_in (List.mem_of_getElem? (i := 293) (by decide +kernel)) (by decide +kernel)
theorem l_RL_18 : Cond.methodLink RL 18 yX9_text ∈ gw := gw_in (List.mem_of_getElem? (i := 297) (by decide +kernel)) (by decide +kernel)
theorem l_RX9_112 : Cond.methodLink RX9 112 yX9_isOnTape ∈ gw := gw_in (List.mem_of_getElem? (i := 301) (by decide +kernel)) (by decide +kernel)
theorem l_RX9_116 : Cond.methodLink RX9 116 yX9_endTape ∈ gw := gw_in (List.mem_of_getElem? (i := 305) (by decide +kernel)) (by decide +kernel)
theorem l_RX9_143 : Cond.methodLink RX9 143 yX6_clear ∈ gw := gw_in (List.mem_of_getElem? (i := 309) (by decide +kernel)) (by decide +kernel)
theorem l_RX9_120 : Cond.methodLink RX9 120 yX9_firstNoLetter ∈ gw := gw_in (List.mem_of_getElem? (i := 313) (by decide +kernel)) (by decide +kernel)
theorem l_RX9_237 : Cond.methodLink RX9 237 yX6_get ∈ gw := gw_in (List.mem_of_getElem? (i := 317) (by decide +kernel)) (by decide +kernel)
theorem l_RX9_214 : Cond.methodLink RX9 214 yX9_isLetter ∈ gw := gw_in (List.mem_of_getElem? (i := 321) (by decide +kernel)) (by decide +kernel)
theorem l_RX9_124 : Cond.methodLink RX9 124 yX9_refuseTape ∈ gw := gw_in (List.mem_of_getElem? (i := 324) (by decide +kernel)) (by decide +kernel)
theorem l_RX9_128 : Cond.methodLink RX9 128 yX4_keep ∈ gw := gw_in (List.mem_of_getElem? (i := 328) (by decide +kernel)) (by decide +kernel)
theorem l_RX4_25 : Cond.methodLink RX4 25 yX2_take ∈ gw := gw_in (List.mem_of_getElem? (i := 332) (by decide +kernel)) (by decide +kernel)
theorem l_RX2_45 : Cond.methodLink RX2 45 yX6_take ∈ gw := gw_in (List.mem_of_getElem? (i := 336) (by decide +kernel)) (by decide +kernel)
theorem l_RX6_23 : Cond.methodLink RX6 23 yX6_clear ∈ gw := gw_in (List.mem_of_getElem? (i := 340) (by decide +kernel)) (by decide +kernel)
theorem l_RX6_26 : Cond.methodLink RX6 26 yX6_add ∈ gw := gw_in (List.mem_of_getElem? (i := 341) (by decide +kernel)) (by decide +kernel)
theorem l_RX4_29 : Cond.methodLink RX4 29 yJ9_floorMod_7cf53 ∈ gw := gw_in (List.mem_of_getElem? (i := 342) (by decide +kernel)) (by decide +kernel)
theorem l_RX4_35 : Cond.methodLink RX4 35 yJ9_min_7cf53 ∈ gw := gw_in (List.mem_of_getElem? (i := 345) (by decide +kernel)) (by decide +kernel)
theorem l_RX9_132 : Cond.methodLink RX9 132 yX2_clear ∈ gw := gw_in (List.mem_of_getElem? (i := 348) (by decide +kernel)) (by decide +kernel)
theorem l_RX2_42 : Cond.methodLink RX2 42 yX6_clear ∈ gw := gw_in (List.mem_of_getElem? (i := 352) (by decide +kernel)) (by decide +kernel)
theorem l_RX9_135 : Cond.methodLink RX9 135 yX2_sequence ∈ gw := gw_in (List.mem_of_getElem? (i := 353) (by decide +kernel)) (by decide +kernel)
theorem l_RX9_139 : Cond.methodLink RX9 139 yX9_takeLetters ∈ gw := gw_in (List.mem_of_getElem? (i := 357) (by decide +kernel)) (by decide +kernel)
theorem l_RL_23 : Cond.methodLink RL 23 yX9_phrase ∈ gw := gw_in (List.mem_of_getElem? (i := 361) (by decide +kernel)) (by decide +kernel)
theorem l_RX9_144 : Cond.methodLink RX9 144 yX9_read ∈ gw := gw_in (List.mem_of_getElem? (i := 365) (by decide +kernel)) (by decide +kernel)
theorem l_RX9_362 : Cond.methodLink RX9 362 yX8_learn ∈ gw := gw_in (List.mem_of_getElem? (i := 369) (by decide +kernel)) (by decide +kernel)
theorem l_RX8_34 : Cond.methodLink RX8 34 yX6_clear ∈ gw := gw_in (List.mem_of_getElem? (i := 373) (by decide +kernel)) (by decide +kernel)
theorem l_RX8_41 : Cond.methodLink RX8 41 yX8_leastReady ∈ gw := gw_in (List.mem_of_getElem? (i := 375) (by decide +kernel)) (by decide +kernel)
theorem l_RX8_63 : Cond.methodLink RX8 63 yX2_isRule ∈ gw := gw_in (List.mem_of_getElem? (i := 379) (by decide +kernel)) (by decide +kernel)
theorem l_RX2_27 : Cond.methodLink RX2 27 yX2_rowOf ∈ gw := gw_in (List.mem_of_getElem? (i := 383) (by decide +kernel)) (by decide +kernel)
theorem l_RX2_31 : Cond.methodLink RX2 31 yX6_size ∈ gw := gw_in (List.mem_of_getElem? (i := 387) (by decide +kernel)) (by decide +kernel)
theorem l_RX8_45 : Cond.methodLink RX8 45 yX2_rowOf ∈ gw := gw_in (List.mem_of_getElem? (i := 388) (by decide +kernel)) (by decide +kernel)
theorem l_RX8_69 : Cond.methodLink RX8 69 yX8_isReady ∈ gw := gw_in (List.mem_of_getElem? (i := 389) (by decide +kernel)) (by decide +kernel)
theorem l_RX8_55 : Cond.methodLink RX8 55 yX6_size ∈ gw := gw_in (List.mem_of_getElem? (i := 393) (by decide +kernel)) (by decide +kernel)
theorem l_RX8_59 : Cond.methodLink RX8 59 yX6_get ∈ gw := gw_in (List.mem_of_getElem? (i := 394) (by decide +kernel)) (by decide +kernel)
theorem l_RX8_66 : Cond.methodLink RX8 66 yX8_lettersOf ∈ gw := gw_in (List.mem_of_getElem? (i := 395) (by decide +kernel)) (by decide +kernel)
theorem l_RX8_51 : Cond.methodLink RX8 51 yX8_tell ∈ gw := gw_in (List.mem_of_getElem? (i := 399) (by decide +kernel)) (by decide +kernel)
theorem l_RX8_73 : Cond.methodLink RX8 73 yX8_depthOf ∈ gw := gw_in (List.mem_of_getElem? (i := 403) (by decide +kernel)) (by decide +kernel)
theorem l_RX8_76 : Cond.methodLink RX8 76 yJ9_max_7cf53 ∈ gw := gw_in (List.mem_of_getElem? (i := 407) (by decide +kernel)) (by decide +kernel)
theorem l_RX8_82 : Cond.methodLink RX8 82 yX6_add ∈ gw := gw_in (List.mem_of_getElem? (i := 410) (by decide +kernel)) (by decide +kernel)
theorem l_RX9_365 : Cond.methodLink RX9 365 yX5_readRow ∈ gw := gw_in (List.mem_of_getElem? (i := 411) (by decide +kernel)) (by decide +kernel)
theorem l_RX5_40 : Cond.methodLink RX5 40 yX6_clear ∈ gw := gw_in (List.mem_of_getElem? (i := 415) (by decide +kernel)) (by decide +kernel)
theorem l_RX5_43 : Cond.methodLink RX5 43 yX6_size ∈ gw := gw_in (List.mem_of_getElem? (i := 416) (by decide +kernel)) (by decide +kernel)
theorem l_RX5_47 : Cond.methodLink RX5 47 yX6_get ∈ gw := gw_in (List.mem_of_getElem? (i := 417) (by decide +kernel)) (by decide +kernel)
theorem l_RX5_51 : Cond.methodLink RX5 51 yX8_lettersOf ∈ gw := gw_in (List.mem_of_getElem? (i := 418) (by decide +kernel)) (by decide +kernel)
theorem l_RX5_56 : Cond.methodLink RX5 56 yX8_goDown ∈ gw := gw_in (List.mem_of_getElem? (i := 419) (by decide +kernel)) (by decide +kernel)
theorem l_RX5_60 : Cond.methodLink RX5 60 yX8_reached ∈ gw := gw_in (List.mem_of_getElem? (i := 423) (by decide +kernel)) (by decide +kernel)
theorem l_RX5_63 : Cond.methodLink RX5 63 yX6_add ∈ gw := gw_in (List.mem_of_getElem? (i := 427) (by decide +kernel)) (by decide +kernel)
theorem l_RX5_66 : Cond.methodLink RX5 66 yX8_levelsGone ∈ gw := gw_in (List.mem_of_getElem? (i := 428) (by decide +kernel)) (by decide +kernel)
theorem l_RX9_147 : Cond.methodLink RX9 147 yX5_hitsOf ∈ gw := gw_in (List.mem_of_getElem? (i := 432) (by decide +kernel)) (by decide +kernel)
theorem l_RX5_75 : Cond.methodLink RX5 75 yX5_isHit ∈ gw := gw_in (List.mem_of_getElem? (i := 436) (by decide +kernel)) (by decide +kernel)
theorem l_RL_27 : Cond.methodLink RL 27 yX9_load ∈ gw := gw_in (List.mem_of_getElem? (i := 440) (by decide +kernel)) (by decide +kernel)
theorem l_RX9_151 : Cond.methodLink RX9 151 yX1_readFrom ∈ gw := gw_in (List.mem_of_getElem? (i := 444) (by decide +kernel)) (by decide +kernel)
theorem l_RX1_44 : Cond.methodLink RX1 44 yX1_start ∈ gw := gw_in (List.mem_of_getElem? (i := 448) (by decide +kernel)) (by decide +kernel)
theorem l_RX1_65 : Cond.methodLink RX1 65 yX2_clear ∈ gw := gw_in (List.mem_of_getElem? (i := 452) (by decide +kernel)) (by decide +kernel)
theorem l_RX1_48 : Cond.methodLink RX1 48 yX1_nextByte ∈ gw := gw_in (List.mem_of_getElem? (i := 454) (by decide +kernel)) (by decide +kernel)
theorem l_RX1_56 : Cond.methodLink RX1 56 yX1_blame ∈ gw := gw_in (List.mem_of_getElem? (i := 458) (by decide +kernel)) (by decide +kernel)
theorem l_RX1_72 : Cond.methodLink RX1 72 yX6_get ∈ gw := gw_in (List.mem_of_getElem? (i := 462) (by decide +kernel)) (by decide +kernel)
theorem l_RX1_52 : Cond.methodLink RX1 52 yX1_isWhole ∈ gw := gw_in (List.mem_of_getElem? (i := 463) (by decide +kernel)) (by decide +kernel)
theorem l_RX1_59 : Cond.methodLink RX1 59 yX1_readRule ∈ gw := gw_in (List.mem_of_getElem? (i := 467) (by decide +kernel)) (by decide +kernel)
theorem l_RX1_76 : Cond.methodLink RX1 76 yX1_lettersOf ∈ gw := gw_in (List.mem_of_getElem? (i := 471) (by decide +kernel)) (by decide +kernel)
theorem l_RX1_79 : Cond.methodLink RX1 79 yX2_rowOf ∈ gw := gw_in (List.mem_of_getElem? (i := 475) (by decide +kernel)) (by decide +kernel)
theorem l_RX1_83 : Cond.methodLink RX1 83 yX1_readRow ∈ gw := gw_in (List.mem_of_getElem? (i := 476) (by decide +kernel)) (by decide +kernel)
theorem l_RX1_91 : Cond.methodLink RX1 91 yX6_add ∈ gw := gw_in (List.mem_of_getElem? (i := 480) (by decide +kernel)) (by decide +kernel)
theorem l_RX1_62 : Cond.methodLink RX1 62 yX1_readSequence ∈ gw := gw_in (List.mem_of_getElem? (i := 481) (by decide +kernel)) (by decide +kernel)
theorem l_RX1_87 : Cond.methodLink RX1 87 yX2_sequence ∈ gw := gw_in (List.mem_of_getElem? (i := 485) (by decide +kernel)) (by decide +kernel)
theorem l_RX9_155 : Cond.methodLink RX9 155 yX1_faultKind ∈ gw := gw_in (List.mem_of_getElem? (i := 486) (by decide +kernel)) (by decide +kernel)
theorem l_RX9_157 : Cond.methodLink RX9 157 yX1_faultPlace ∈ gw := gw_in (List.mem_of_getElem? (i := 490) (by decide +kernel)) (by decide +kernel)
theorem l_RX9_159 : Cond.methodLink RX9 159 yX1_packing ∈ gw := gw_in (List.mem_of_getElem? (i := 494) (by decide +kernel)) (by decide +kernel)
theorem l_RX9_162 : Cond.methodLink RX9 162 yX2_take ∈ gw := gw_in (List.mem_of_getElem? (i := 498) (by decide +kernel)) (by decide +kernel)
theorem l_RX9_165 : Cond.methodLink RX9 165 yX9_letterCount ∈ gw := gw_in (List.mem_of_getElem? (i := 499) (by decide +kernel)) (by decide +kernel)
theorem l_RX9_207 : Cond.methodLink RX9 207 yX5_size ∈ gw := gw_in (List.mem_of_getElem? (i := 503) (by decide +kernel)) (by decide +kernel)
theorem l_RL_31 : Cond.methodLink RL 31 yX9_fault ∈ gw := gw_in (List.mem_of_getElem? (i := 507) (by decide +kernel)) (by decide +kernel)
theorem l_RL_35 : Cond.methodLink RL 35 yX9_step ∈ gw := gw_in (List.mem_of_getElem? (i := 511) (by decide +kernel)) (by decide +kernel)
theorem l_RX9_168 : Cond.methodLink RX9 168 yX3_tally ∈ gw := gw_in (List.mem_of_getElem? (i := 515) (by decide +kernel)) (by decide +kernel)
theorem l_RX3_24 : Cond.methodLink RX3 24 yX3_forget ∈ gw := gw_in (List.mem_of_getElem? (i := 519) (by decide +kernel)) (by decide +kernel)
theorem l_RX3_27 : Cond.methodLink RX3 27 yX6_size ∈ gw := gw_in (List.mem_of_getElem? (i := 523) (by decide +kernel)) (by decide +kernel)
theorem l_RX3_31 : Cond.methodLink RX3 31 yX6_get ∈ gw := gw_in (List.mem_of_getElem? (i := 524) (by decide +kernel)) (by decide +kernel)
theorem l_RX3_55 : Cond.methodLink RX3 55 yX6_clear ∈ gw := gw_in (List.mem_of_getElem? (i := 525) (by decide +kernel)) (by decide +kernel)
theorem l_RX3_35 : Cond.methodLink RX3 35 yX3_pairOf ∈ gw := gw_in (List.mem_of_getElem? (i := 526) (by decide +kernel)) (by decide +kernel)
theorem l_RX3_39 : Cond.methodLink RX3 39 yX3_addOne ∈ gw := gw_in (List.mem_of_getElem? (i := 529) (by decide +kernel)) (by decide +kernel)
theorem l_RX3_52 : Cond.methodLink RX3 52 yX6_add ∈ gw := gw_in (List.mem_of_getElem? (i := 533) (by decide +kernel)) (by decide +kernel)
theorem l_RX9_172 : Cond.methodLink RX9 172 yX3_ranked ∈ gw := gw_in (List.mem_of_getElem? (i := 534) (by decide +kernel)) (by decide +kernel)
theorem l_RX3_45 : Cond.methodLink RX3 45 yX3_nextBehind ∈ gw := gw_in (List.mem_of_getElem? (i := 538) (by decide +kernel)) (by decide +kernel)
theorem l_RX3_42 : Cond.methodLink RX3 42 yX3_countOfPair ∈ gw := gw_in (List.mem_of_getElem? (i := 542) (by decide +kernel)) (by decide +kernel)
theorem l_RX3_48 : Cond.methodLink RX3 48 yX3_isAhead ∈ gw := gw_in (List.mem_of_getElem? (i := 546) (by decide +kernel)) (by decide +kernel)
theorem l_RX9_175 : Cond.methodLink RX9 175 yX3_leftOf ∈ gw := gw_in (List.mem_of_getElem? (i := 550) (by decide +kernel)) (by decide +kernel)
theorem l_RX9_178 : Cond.methodLink RX9 178 yX3_rightOf ∈ gw := gw_in (List.mem_of_getElem? (i := 553) (by decide +kernel)) (by decide +kernel)
theorem l_RX9_181 : Cond.methodLink RX9 181 yX9_join ∈ gw := gw_in (List.mem_of_getElem? (i := 556) (by decide +kernel)) (by decide +kernel)
theorem l_RX9_369 : Cond.methodLink RX9 369 yX2_signFor ∈ gw := gw_in (List.mem_of_getElem? (i := 560) (by decide +kernel)) (by decide +kernel)
theorem l_RX2_57 : Cond.methodLink RX2 57 yX2_ruleOf ∈ gw := gw_in (List.mem_of_getElem? (i := 564) (by decide +kernel)) (by decide +kernel)
theorem l_RX2_53 : Cond.methodLink RX2 53 yX6_isPair ∈ gw := gw_in (List.mem_of_getElem? (i := 568) (by decide +kernel)) (by decide +kernel)
theorem l_RX2_61 : Cond.methodLink RX2 61 yX2_freeSign ∈ gw := gw_in (List.mem_of_getElem? (i := 572) (by decide +kernel)) (by decide +kernel)
theorem l_RX9_372 : Cond.methodLink RX9 372 yX2_joinPair ∈ gw := gw_in (List.mem_of_getElem? (i := 576) (by decide +kernel)) (by decide +kernel)
theorem l_RX2_64 : Cond.methodLink RX2 64 yX2_signFor ∈ gw := gw_in (List.mem_of_getElem? (i := 580) (by decide +kernel)) (by decide +kernel)
theorem l_RX2_67 : Cond.methodLink RX2 67 yX6_add ∈ gw := gw_in (List.mem_of_getElem? (i := 581) (by decide +kernel)) (by decide +kernel)
theorem l_RX2_70 : Cond.methodLink RX2 70 yX6_joinPairs ∈ gw := gw_in (List.mem_of_getElem? (i := 582) (by decide +kernel)) (by decide +kernel)
theorem l_RL_40 : Cond.methodLink RL 40 yX9_pack ∈ gw := gw_in (List.mem_of_getElem? (i := 586) (by decide +kernel)) (by decide +kernel)
theorem l_RX9_184 : Cond.methodLink RX9 184 yX9_packBest ∈ gw := gw_in (List.mem_of_getElem? (i := 590) (by decide +kernel)) (by decide +kernel)
theorem l_RL_44 : Cond.methodLink RL 44 yX9_replace ∈ gw := gw_in (List.mem_of_getElem? (i := 594) (by decide +kernel)) (by decide +kernel)
theorem l_RX9_188 : Cond.methodLink RX9 188 yX2_has ∈ gw := gw_in (List.mem_of_getElem? (i := 598) (by decide +kernel)) (by decide +kernel)
theorem l_RX2_39 : Cond.methodLink RX2 39 yX2_isRule ∈ gw := gw_in (List.mem_of_getElem? (i := 603) (by decide +kernel)) (by decide +kernel)
theorem l_RX9_191 : Cond.methodLink RX9 191 yX3_countOf ∈ gw := gw_in (List.mem_of_getElem? (i := 604) (by decide +kernel)) (by decide +kernel)
theorem l_RL_49 : Cond.methodLink RL 49 yX9_drop ∈ gw := gw_in (List.mem_of_getElem? (i := 608) (by decide +kernel)) (by decide +kernel)
theorem l_RX9_194 : Cond.methodLink RX9 194 yX2_isRule ∈ gw := gw_in (List.mem_of_getElem? (i := 612) (by decide +kernel)) (by decide +kernel)
theorem l_RX9_197 : Cond.methodLink RX9 197 yX2_canGiveUp ∈ gw := gw_in (List.mem_of_getElem? (i := 613) (by decide +kernel)) (by decide +kernel)
theorem l_RX2_49 : Cond.methodLink RX2 49 yX6_howMany ∈ gw := gw_in (List.mem_of_getElem? (i := 617) (by decide +kernel)) (by decide +kernel)
theorem l_RX9_200 : Cond.methodLink RX9 200 yX2_giveUp ∈ gw := gw_in (List.mem_of_getElem? (i := 621) (by decide +kernel)) (by decide +kernel)
theorem l_RX2_74 : Cond.methodLink RX2 74 yX6_spreadAll ∈ gw := gw_in (List.mem_of_getElem? (i := 625) (by decide +kernel)) (by decide +kernel)
theorem l_RX6_30 : Cond.methodLink RX6 30 yX6_spreadAt ∈ gw := gw_in (List.mem_of_getElem? (i := 629) (by decide +kernel)) (by decide +kernel)
theorem l_RX6_19 : Cond.methodLink RX6 19 yX6_moveTail ∈ gw := gw_in (List.mem_of_getElem? (i := 633) (by decide +kernel)) (by decide +kernel)
theorem l_RX6_34 : Cond.methodLink RX6 34 arraycopyName ∈ gw := gw_in (List.mem_of_getElem? (i := 637) (by decide +kernel)) (by decide +kernel)
theorem l_RX9_203 : Cond.methodLink RX9 203 yX2_size ∈ gw := gw_in (List.mem_of_getElem? (i := 640) (by decide +kernel)) (by decide +kernel)
theorem l_RL_53 : Cond.methodLink RL 53 yX9_trim ∈ gw := gw_in (List.mem_of_getElem? (i := 644) (by decide +kernel)) (by decide +kernel)
theorem l_RX9_204 : Cond.methodLink RX9 204 yX2_leastIdle ∈ gw := gw_in (List.mem_of_getElem? (i := 648) (by decide +kernel)) (by decide +kernel)
theorem l_RX2_78 : Cond.methodLink RX2 78 yX2_usesOf ∈ gw := gw_in (List.mem_of_getElem? (i := 652) (by decide +kernel)) (by decide +kernel)
theorem l_RX2_81 : Cond.methodLink RX2 81 yX2_canGiveUp ∈ gw := gw_in (List.mem_of_getElem? (i := 656) (by decide +kernel)) (by decide +kernel)
theorem l_RL_57 : Cond.methodLink RL 57 yX9_unpack ∈ gw := gw_in (List.mem_of_getElem? (i := 657) (by decide +kernel)) (by decide +kernel)
theorem l_RX9_208 : Cond.methodLink RX9 208 yX5_letterAt ∈ gw := gw_in (List.mem_of_getElem? (i := 661) (by decide +kernel)) (by decide +kernel)
theorem l_RL_61 : Cond.methodLink RL 61 yX9_put ∈ gw := gw_in (List.mem_of_getElem? (i := 665) (by decide +kernel)) (by decide +kernel)
theorem l_RX9_217 : Cond.methodLink RX9 217 yX5_hasPlace ∈ gw := gw_in (List.mem_of_getElem? (i := 669) (by decide +kernel)) (by decide +kernel)
theorem l_RX9_220 : Cond.methodLink RX9 220 yX2_open ∈ gw := gw_in (List.mem_of_getElem? (i := 673) (by decide +kernel)) (by decide +kernel)
theorem l_RX2_84 : Cond.methodLink RX2 84 yX6_get ∈ gw := gw_in (List.mem_of_getElem? (i := 677) (by decide +kernel)) (by decide +kernel)
theorem l_RX2_87 : Cond.methodLink RX2 87 yX8_lettersOf ∈ gw := gw_in (List.mem_of_getElem? (i := 678) (by decide +kernel)) (by decide +kernel)
theorem l_RX2_92 : Cond.methodLink RX2 92 yX6_spreadAt ∈ gw := gw_in (List.mem_of_getElem? (i := 679) (by decide +kernel)) (by decide +kernel)
theorem l_RX9_224 : Cond.methodLink RX9 224 yX6_set ∈ gw := gw_in (List.mem_of_getElem? (i := 680) (by decide +kernel)) (by decide +kernel)
theorem l_RL_65 : Cond.methodLink RL 65 yX9_cut ∈ gw := gw_in (List.mem_of_getElem? (i := 684) (by decide +kernel)) (by decide +kernel)
theorem l_RX9_227 : Cond.methodLink RX9 227 yX9_isStretch ∈ gw := gw_in (List.mem_of_getElem? (i := 688) (by decide +kernel)) (by decide +kernel)
theorem l_RX9_231 : Cond.methodLink RX9 231 yX6_removeFrom ∈ gw := gw_in (List.mem_of_getElem? (i := 692) (by decide +kernel)) (by decide +kernel)
theorem l_RL_69 : Cond.methodLink RL 69 yX9_insert ∈ gw := gw_in (List.mem_of_getElem? (i := 696) (by decide +kernel)) (by decide +kernel)
theorem l_RX9_234 : Cond.methodLink RX9 234 yX6_addAt ∈ gw := gw_in (List.mem_of_getElem? (i := 700) (by decide +kernel)) (by decide +kernel)
theorem l_RL_73 : Cond.methodLink RL 73 yX9_sign ∈ gw := gw_in (List.mem_of_getElem? (i := 704) (by decide +kernel)) (by decide +kernel)
theorem l_RL_77 : Cond.methodLink RL 77 yX9_rule ∈ gw := gw_in (List.mem_of_getElem? (i := 708) (by decide +kernel)) (by decide +kernel)
theorem l_RX9_240 : Cond.methodLink RX9 240 yX2_rowOf ∈ gw := gw_in (List.mem_of_getElem? (i := 712) (by decide +kernel)) (by decide +kernel)
theorem l_RX9_244 : Cond.methodLink RX9 244 yX8_lettersOf ∈ gw := gw_in (List.mem_of_getElem? (i := 713) (by decide +kernel)) (by decide +kernel)
theorem l_RX9_247 : Cond.methodLink RX9 247 yX8_depthOf ∈ gw := gw_in (List.mem_of_getElem? (i := 714) (by decide +kernel)) (by decide +kernel)
theorem l_RX9_250 : Cond.methodLink RX9 250 yX2_usesOf ∈ gw := gw_in (List.mem_of_getElem? (i := 715) (by decide +kernel)) (by decide +kernel)
theorem l_RX9_253 : Cond.methodLink RX9 253 yX6_howMany ∈ gw := gw_in (List.mem_of_getElem? (i := 716) (by decide +kernel)) (by decide +kernel)
theorem l_RX9_256 : Cond.methodLink RX9 256 yX9_hitsWithin ∈ gw := gw_in (List.mem_of_getElem? (i := 717) (by decide +kernel)) (by decide +kernel)
theorem l_RX9_259 : Cond.methodLink RX9 259 yX9_rowSign ∈ gw := gw_in (List.mem_of_getElem? (i := 721) (by decide +kernel)) (by decide +kernel)
theorem l_RL_81 : Cond.methodLink RL 81 yX9_word ∈ gw := gw_in (List.mem_of_getElem? (i := 725) (by decide +kernel)) (by decide +kernel)
theorem l_RX9_262 : Cond.methodLink RX9 262 yX8_goDown ∈ gw := gw_in (List.mem_of_getElem? (i := 729) (by decide +kernel)) (by decide +kernel)
theorem l_RX9_266 : Cond.methodLink RX9 266 yX8_reached ∈ gw := gw_in (List.mem_of_getElem? (i := 730) (by decide +kernel)) (by decide +kernel)
theorem l_RL_85 : Cond.methodLink RL 85 yX9_pairs ∈ gw := gw_in (List.mem_of_getElem? (i := 731) (by decide +kernel)) (by decide +kernel)
theorem l_RL_89 : Cond.methodLink RL 89 yX9_pick ∈ gw := gw_in (List.mem_of_getElem? (i := 735) (by decide +kernel)) (by decide +kernel)
theorem l_RL_93 : Cond.methodLink RL 93 yX9_at ∈ gw := gw_in (List.mem_of_getElem? (i := 739) (by decide +kernel)) (by decide +kernel)
theorem l_RL_97 : Cond.methodLink RL 97 yX9_within ∈ gw := gw_in (List.mem_of_getElem? (i := 743) (by decide +kernel)) (by decide +kernel)
theorem l_RX9_269 : Cond.methodLink RX9 269 yX5_homeAt ∈ gw := gw_in (List.mem_of_getElem? (i := 747) (by decide +kernel)) (by decide +kernel)
theorem l_RX9_272 : Cond.methodLink RX9 272 yX5_beginAt ∈ gw := gw_in (List.mem_of_getElem? (i := 751) (by decide +kernel)) (by decide +kernel)
theorem l_RX9_275 : Cond.methodLink RX9 275 yX5_depthAt ∈ gw := gw_in (List.mem_of_getElem? (i := 755) (by decide +kernel)) (by decide +kernel)
theorem l_RL_101 : Cond.methodLink RL 101 yX9_way ∈ gw := gw_in (List.mem_of_getElem? (i := 759) (by decide +kernel)) (by decide +kernel)
theorem l_RX9_278 : Cond.methodLink RX9 278 yX8_levelsGone ∈ gw := gw_in (List.mem_of_getElem? (i := 763) (by decide +kernel)) (by decide +kernel)
theorem l_RL_105 : Cond.methodLink RL 105 yX9_ahead ∈ gw := gw_in (List.mem_of_getElem? (i := 764) (by decide +kernel)) (by decide +kernel)
theorem l_RL_109 : Cond.methodLink RL 109 yX9_where ∈ gw := gw_in (List.mem_of_getElem? (i := 768) (by decide +kernel)) (by decide +kernel)
theorem l_RL_113 : Cond.methodLink RL 113 yX9_common ∈ gw := gw_in (List.mem_of_getElem? (i := 772) (by decide +kernel)) (by decide +kernel)
theorem l_RX9_281 : Cond.methodLink RX9 281 yX5_alikeFrom ∈ gw := gw_in (List.mem_of_getElem? (i := 776) (by decide +kernel)) (by decide +kernel)
theorem l_RX5_69 : Cond.methodLink RX5 69 yJ9_max_7cf53 ∈ gw := gw_in (List.mem_of_getElem? (i := 780) (by decide +kernel)) (by decide +kernel)
theorem l_RL_117 : Cond.methodLink RL 117 yX9_compare ∈ gw := gw_in (List.mem_of_getElem? (i := 781) (by decide +kernel)) (by decide +kernel)
theorem l_RL_121 : Cond.methodLink RL 121 yX9_print ∈ gw := gw_in (List.mem_of_getElem? (i := 785) (by decide +kernel)) (by decide +kernel)
theorem l_RL_125 : Cond.methodLink RL 125 yX9_repeat ∈ gw := gw_in (List.mem_of_getElem? (i := 790) (by decide +kernel)) (by decide +kernel)
theorem l_RX9_285 : Cond.methodLink RX9 285 yX5_seekTwice ∈ gw := gw_in (List.mem_of_getElem? (i := 794) (by decide +kernel)) (by decide +kernel)
theorem l_RX9_288 : Cond.methodLink RX9 288 yX5_longestTwice ∈ gw := gw_in (List.mem_of_getElem? (i := 798) (by decide +kernel)) (by decide +kernel)
theorem l_RL_129 : Cond.methodLink RL 129 yX9_repeatAt ∈ gw := gw_in (List.mem_of_getElem? (i := 802) (by decide +kernel)) (by decide +kernel)
theorem l_RX9_291 : Cond.methodLink RX9 291 yX5_twiceAt ∈ gw := gw_in (List.mem_of_getElem? (i := 806) (by decide +kernel)) (by decide +kernel)
theorem l_RL_133 : Cond.methodLink RL 133 yX9_hit ∈ gw := gw_in (List.mem_of_getElem? (i := 810) (by decide +kernel)) (by decide +kernel)
theorem l_RX9_294 : Cond.methodLink RX9 294 yX5_hitAt ∈ gw := gw_in (List.mem_of_getElem? (i := 814) (by decide +kernel)) (by decide +kernel)
theorem l_RL_137 : Cond.methodLink RL 137 yX9_hits ∈ gw := gw_in (List.mem_of_getElem? (i := 818) (by decide +kernel)) (by decide +kernel)
theorem l_RX9_298 : Cond.methodLink RX9 298 yX5_crossingsOf ∈ gw := gw_in (List.mem_of_getElem? (i := 822) (by decide +kernel)) (by decide +kernel)
theorem l_RL_141 : Cond.methodLink RL 141 yX9_gain ∈ gw := gw_in (List.mem_of_getElem? (i := 826) (by decide +kernel)) (by decide +kernel)
theorem l_RX9_301 : Cond.methodLink RX9 301 yX2_ruleOf ∈ gw := gw_in (List.mem_of_getElem? (i := 830) (by decide +kernel)) (by decide +kernel)
theorem l_RL_145 : Cond.methodLink RL 145 yX9_best ∈ gw := gw_in (List.mem_of_getElem? (i := 831) (by decide +kernel)) (by decide +kernel)
theorem l_RX9_304 : Cond.methodLink RX9 304 yX7_leastSize ∈ gw := gw_in (List.mem_of_getElem? (i := 835) (by decide +kernel)) (by decide +kernel)
theorem l_RX7_34 : Cond.methodLink RX7 34 yX2_size ∈ gw := gw_in (List.mem_of_getElem? (i := 839) (by decide +kernel)) (by decide +kernel)
theorem l_RX7_40 : Cond.methodLink RX7 40 yX2_ruleCount ∈ gw := gw_in (List.mem_of_getElem? (i := 840) (by decide +kernel)) (by decide +kernel)
theorem l_RX7_43 : Cond.methodLink RX7 43 yX7_markRules ∈ gw := gw_in (List.mem_of_getElem? (i := 844) (by decide +kernel)) (by decide +kernel)
theorem l_RX7_76 : Cond.methodLink RX7 76 yX2_rowOf ∈ gw := gw_in (List.mem_of_getElem? (i := 848) (by decide +kernel)) (by decide +kernel)
theorem l_RX7_80 : Cond.methodLink RX7 80 yX6_size ∈ gw := gw_in (List.mem_of_getElem? (i := 849) (by decide +kernel)) (by decide +kernel)
theorem l_RX7_81 : Cond.methodLink RX7 81 yX6_get ∈ gw := gw_in (List.mem_of_getElem? (i := 850) (by decide +kernel)) (by decide +kernel)
theorem l_RX7_84 : Cond.methodLink RX7 84 yX3_pairOf ∈ gw := gw_in (List.mem_of_getElem? (i := 851) (by decide +kernel)) (by decide +kernel)
theorem l_RX7_47 : Cond.methodLink RX7 47 yX2_sequence ∈ gw := gw_in (List.mem_of_getElem? (i := 852) (by decide +kernel)) (by decide +kernel)
theorem l_RX7_51 : Cond.methodLink RX7 51 yX3_tally ∈ gw := gw_in (List.mem_of_getElem? (i := 853) (by decide +kernel)) (by decide +kernel)
theorem l_RX7_55 : Cond.methodLink RX7 55 yX7_greatestGain ∈ gw := gw_in (List.mem_of_getElem? (i := 854) (by decide +kernel)) (by decide +kernel)
theorem l_RX7_65 : Cond.methodLink RX7 65 yX3_kinds ∈ gw := gw_in (List.mem_of_getElem? (i := 858) (by decide +kernel)) (by decide +kernel)
theorem l_RX7_68 : Cond.methodLink RX7 68 yX3_pairAt ∈ gw := gw_in (List.mem_of_getElem? (i := 862) (by decide +kernel)) (by decide +kernel)
theorem l_RX7_90 : Cond.methodLink RX7 90 yX7_isRuled ∈ gw := gw_in (List.mem_of_getElem? (i := 866) (by decide +kernel)) (by decide +kernel)
theorem l_RX7_94 : Cond.methodLink RX7 94 yX7_gainOf ∈ gw := gw_in (List.mem_of_getElem? (i := 870) (by decide +kernel)) (by decide +kernel)
theorem l_RX7_87 : Cond.methodLink RX7 87 yX3_countOfPair ∈ gw := gw_in (List.mem_of_getElem? (i := 874) (by decide +kernel)) (by decide +kernel)
theorem l_RX7_97 : Cond.methodLink RX7 97 yJ9_max_7cf53 ∈ gw := gw_in (List.mem_of_getElem? (i := 875) (by decide +kernel)) (by decide +kernel)
theorem l_RX7_59 : Cond.methodLink RX7 59 yJ9_min_7cf53 ∈ gw := gw_in (List.mem_of_getElem? (i := 876) (by decide +kernel)) (by decide +kernel)
theorem l_RX7_72 : Cond.methodLink RX7 72 yX7_leastBehind ∈ gw := gw_in (List.mem_of_getElem? (i := 877) (by decide +kernel)) (by decide +kernel)
theorem l_RX7_100 : Cond.methodLink RX7 100 yX3_leftOf ∈ gw := gw_in (List.mem_of_getElem? (i := 881) (by decide +kernel)) (by decide +kernel)
theorem l_RX7_103 : Cond.methodLink RX7 103 yX3_rightOf ∈ gw := gw_in (List.mem_of_getElem? (i := 882) (by decide +kernel)) (by decide +kernel)
theorem l_RX7_106 : Cond.methodLink RX7 106 yX6_take ∈ gw := gw_in (List.mem_of_getElem? (i := 883) (by decide +kernel)) (by decide +kernel)
theorem l_RX7_109 : Cond.methodLink RX7 109 yX2_signFor ∈ gw := gw_in (List.mem_of_getElem? (i := 884) (by decide +kernel)) (by decide +kernel)
theorem l_RX7_112 : Cond.methodLink RX7 112 yX6_joinPairs ∈ gw := gw_in (List.mem_of_getElem? (i := 885) (by decide +kernel)) (by decide +kernel)
theorem l_RL_149 : Cond.methodLink RL 149 yX9_bits ∈ gw := gw_in (List.mem_of_getElem? (i := 886) (by decide +kernel)) (by decide +kernel)
theorem l_RX9_309 : Cond.methodLink RX9 309 yX9_perLetter ∈ gw := gw_in (List.mem_of_getElem? (i := 891) (by decide +kernel)) (by decide +kernel)
theorem l_RX9_313 : Cond.methodLink RX9 313 yX9_bitsOf ∈ gw := gw_in (List.mem_of_getElem? (i := 895) (by decide +kernel)) (by decide +kernel)
theorem l_RX9_317 : Cond.methodLink RX9 317 yX5_depthSum ∈ gw := gw_in (List.mem_of_getElem? (i := 900) (by decide +kernel)) (by decide +kernel)
theorem l_RX9_320 : Cond.methodLink RX9 320 yX9_foldedLengths ∈ gw := gw_in (List.mem_of_getElem? (i := 904) (by decide +kernel)) (by decide +kernel)
theorem l_RL_153 : Cond.methodLink RL 153 yX9_form ∈ gw := gw_in (List.mem_of_getElem? (i := 909) (by decide +kernel)) (by decide +kernel)
theorem l_RX9_324 : Cond.methodLink RX9 324 yX9_writeForm ∈ gw := gw_in (List.mem_of_getElem? (i := 913) (by decide +kernel)) (by decide +kernel)
theorem l_RX9_383 : Cond.methodLink RX9 383 yX8_told ∈ gw := gw_in (List.mem_of_getElem? (i := 917) (by decide +kernel)) (by decide +kernel)
theorem l_RX9_386 : Cond.methodLink RX9 386 yX8_toldAt ∈ gw := gw_in (List.mem_of_getElem? (i := 921) (by decide +kernel)) (by decide +kernel)
theorem l_RX9_389 : Cond.methodLink RX9 389 yX9_writeRow ∈ gw := gw_in (List.mem_of_getElem? (i := 925) (by decide +kernel)) (by decide +kernel)
theorem l_RL_157 : Cond.methodLink RL 157 yX9_code ∈ gw := gw_in (List.mem_of_getElem? (i := 929) (by decide +kernel)) (by decide +kernel)
theorem l_RX9_327 : Cond.methodLink RX9 327 yX0_make ∈ gw := gw_in (List.mem_of_getElem? (i := 933) (by decide +kernel)) (by decide +kernel)
theorem l_RX0_36 : Cond.methodLink RX0 36 yX0_weigh ∈ gw := gw_in (List.mem_of_getElem? (i := 937) (by decide +kernel)) (by decide +kernel)
theorem l_RX0_62 : Cond.methodLink RX0 62 yX6_howMany ∈ gw := gw_in (List.mem_of_getElem? (i := 941) (by decide +kernel)) (by decide +kernel)
theorem l_RX0_40 : Cond.methodLink RX0 40 yX0_putTwoTogether ∈ gw := gw_in (List.mem_of_getElem? (i := 942) (by decide +kernel)) (by decide +kernel)
theorem l_RX0_43 : Cond.methodLink RX0 43 yX0_lightestBut ∈ gw := gw_in (List.mem_of_getElem? (i := 946) (by decide +kernel)) (by decide +kernel)
theorem l_RX0_47 : Cond.methodLink RX0 47 yX0_lengthenGroup ∈ gw := gw_in (List.mem_of_getElem? (i := 950) (by decide +kernel)) (by decide +kernel)
theorem l_RX0_65 : Cond.methodLink RX0 65 yJ9_min_7cf53 ∈ gw := gw_in (List.mem_of_getElem? (i := 954) (by decide +kernel)) (by decide +kernel)
theorem l_RX0_71 : Cond.methodLink RX0 71 yJ9_max_7cf53 ∈ gw := gw_in (List.mem_of_getElem? (i := 955) (by decide +kernel)) (by decide +kernel)
theorem l_RX0_50 : Cond.methodLink RX0 50 yX0_putInOrder ∈ gw := gw_in (List.mem_of_getElem? (i := 956) (by decide +kernel)) (by decide +kernel)
theorem l_RX0_74 : Cond.methodLink RX0 74 yX6_clear ∈ gw := gw_in (List.mem_of_getElem? (i := 960) (by decide +kernel)) (by decide +kernel)
theorem l_RX0_77 : Cond.methodLink RX0 77 yX6_add ∈ gw := gw_in (List.mem_of_getElem? (i := 961) (by decide +kernel)) (by decide +kernel)
theorem l_RX0_53 : Cond.methodLink RX0 53 yX0_number ∈ gw := gw_in (List.mem_of_getElem? (i := 962) (by decide +kernel)) (by decide +kernel)
theorem l_RX0_59 : Cond.methodLink RX0 59 yX6_get ∈ gw := gw_in (List.mem_of_getElem? (i := 966) (by decide +kernel)) (by decide +kernel)
theorem l_RX0_56 : Cond.methodLink RX0 56 yX0_lengthOf ∈ gw := gw_in (List.mem_of_getElem? (i := 967) (by decide +kernel)) (by decide +kernel)
theorem l_RX0_80 : Cond.methodLink RX0 80 yX6_size ∈ gw := gw_in (List.mem_of_getElem? (i := 971) (by decide +kernel)) (by decide +kernel)
theorem l_RX9_330 : Cond.methodLink RX9 330 yX0_lengthOf ∈ gw := gw_in (List.mem_of_getElem? (i := 972) (by decide +kernel)) (by decide +kernel)
theorem l_RX9_333 : Cond.methodLink RX9 333 yX0_codeOf ∈ gw := gw_in (List.mem_of_getElem? (i := 973) (by decide +kernel)) (by decide +kernel)
theorem l_RL_161 : Cond.methodLink RL 161 yX9_coded ∈ gw := gw_in (List.mem_of_getElem? (i := 977) (by decide +kernel)) (by decide +kernel)
theorem l_RX9_336 : Cond.methodLink RX9 336 yX0_signAt ∈ gw := gw_in (List.mem_of_getElem? (i := 981) (by decide +kernel)) (by decide +kernel)
theorem l_RL_165 : Cond.methodLink RL 165 yX9_undo ∈ gw := gw_in (List.mem_of_getElem? (i := 985) (by decide +kernel)) (by decide +kernel)
theorem l_RX9_339 : Cond.methodLink RX9 339 yX4_size ∈ gw := gw_in (List.mem_of_getElem? (i := 989) (by decide +kernel)) (by decide +kernel)
theorem l_RX9_340 : Cond.methodLink RX9 340 yX4_goBack ∈ gw := gw_in (List.mem_of_getElem? (i := 993) (by decide +kernel)) (by decide +kernel)
theorem l_RX4_38 : Cond.methodLink RX4 38 yJ9_max_7cf53 ∈ gw := gw_in (List.mem_of_getElem? (i := 997) (by decide +kernel)) (by decide +kernel)
theorem l_RL_169 : Cond.methodLink RL 169 yX9_image ∈ gw := gw_in (List.mem_of_getElem? (i := 998) (by decide +kernel)) (by decide +kernel)
theorem l_RL_173 : Cond.methodLink RL 173 yX9_restore ∈ gw := gw_in (List.mem_of_getElem? (i := 1002) (by decide +kernel)) (by decide +kernel)
theorem l_RX9_344 : Cond.methodLink RX9 344 yX4_forget ∈ gw := gw_in (List.mem_of_getElem? (i := 1006) (by decide +kernel)) (by decide +kernel)
theorem l_RL_177 : Cond.methodLink RL 177 yX9_count ∈ gw := gw_in (List.mem_of_getElem? (i := 1010) (by decide +kernel)) (by decide +kernel)
theorem l_RX9_347 : Cond.methodLink RX9 347 yX2_ruleCount ∈ gw := gw_in (List.mem_of_getElem? (i := 1014) (by decide +kernel)) (by decide +kernel)
theorem l_RX9_350 : Cond.methodLink RX9 350 yX9_greatestDepth ∈ gw := gw_in (List.mem_of_getElem? (i := 1015) (by decide +kernel)) (by decide +kernel)
theorem l_RX9_375 : Cond.methodLink RX9 375 yJ9_max_7cf53 ∈ gw := gw_in (List.mem_of_getElem? (i := 1019) (by decide +kernel)) (by decide +kernel)
theorem l_RX9_353 : Cond.methodLink RX9 353 yX3_kinds ∈ gw := gw_in (List.mem_of_getElem? (i := 1020) (by decide +kernel)) (by decide +kernel)
theorem l_RX9_356 : Cond.methodLink RX9 356 yX2_freeSign ∈ gw := gw_in (List.mem_of_getElem? (i := 1021) (by decide +kernel)) (by decide +kernel)
theorem l_RX9_359 : Cond.methodLink RX9 359 yX0_allBits ∈ gw := gw_in (List.mem_of_getElem? (i := 1022) (by decide +kernel)) (by decide +kernel)
theorem l_RL_12 : Cond.methodLink RL 12 yX10_init ∈ gw := gw_in (List.mem_of_getElem? (i := 1028) (by decide +kernel)) (by decide +kernel)
theorem l_RX10_7 : Cond.methodLink RX10 7 Lib.objectInit ∈ gw := gw_in (List.mem_of_getElem? (i := 1031) (by decide +kernel)) (by decide +kernel)
theorem l_RL_17 : Cond.methodLink RL 17 yX10_feed ∈ gw := gw_in (List.mem_of_getElem? (i := 1148) (by decide +kernel)) (by decide +kernel)
theorem l_RL_30 : Cond.methodLink RL 30 yX10_load ∈ gw := gw_in (List.mem_of_getElem? (i := 1152) (by decide +kernel)) (by decide +kernel)
theorem l_RX10_98 : Cond.methodLink RX10 98 yX10_isIn ∈ gw := gw_in (List.mem_of_getElem? (i := 1156) (by decide +kernel)) (by decide +kernel)
theorem l_RX10_168 : Cond.methodLink RX10 168 yX10_readsForm ∈ gw := gw_in (List.mem_of_getElem? (i := 1159) (by decide +kernel)) (by decide +kernel)
theorem l_RX10_159 : Cond.methodLink RX10 159 yX10_nextByte ∈ gw := gw_in (List.mem_of_getElem? (i := 1163) (by decide +kernel)) (by decide +kernel)
theorem l_RX10_153 : Cond.methodLink RX10 153 yX10_fails ∈ gw := gw_in (List.mem_of_getElem? (i := 1167) (by decide +kernel)) (by decide +kernel)
theorem l_RX10_165 : Cond.methodLink RX10 165 yX10_nextRule ∈ gw := gw_in (List.mem_of_getElem? (i := 1171) (by decide +kernel)) (by decide +kernel)
theorem l_RX10_92 : Cond.methodLink RX10 92 yX10_rowAt ∈ gw := gw_in (List.mem_of_getElem? (i := 1177) (by decide +kernel)) (by decide +kernel)
theorem l_RX10_162 : Cond.methodLink RX10 162 yX10_nextSigns ∈ gw := gw_in (List.mem_of_getElem? (i := 1180) (by decide +kernel)) (by decide +kernel)
theorem l_RX10_171 : Cond.methodLink RX10 171 yX10_notes ∈ gw := gw_in (List.mem_of_getElem? (i := 1184) (by decide +kernel)) (by decide +kernel)
theorem l_RX10_88 : Cond.methodLink RX10 88 yX10_copies ∈ gw := gw_in (List.mem_of_getElem? (i := 1188) (by decide +kernel)) (by decide +kernel)
theorem l_RX10_174 : Cond.methodLink RX10 174 yX10_lettersMany ∈ gw := gw_in (List.mem_of_getElem? (i := 1191) (by decide +kernel)) (by decide +kernel)
theorem l_RX10_134 : Cond.methodLink RX10 134 yX10_laysWords ∈ gw := gw_in (List.mem_of_getElem? (i := 1195) (by decide +kernel)) (by decide +kernel)
theorem l_RX10_106 : Cond.methodLink RX10 106 yX10_rowLong ∈ gw := gw_in (List.mem_of_getElem? (i := 1199) (by decide +kernel)) (by decide +kernel)
theorem l_RX10_109 : Cond.methodLink RX10 109 yX10_laysWord ∈ gw := gw_in (List.mem_of_getElem? (i := 1203) (by decide +kernel)) (by decide +kernel)
theorem l_RX10_113 : Cond.methodLink RX10 113 yX10_inRow ∈ gw := gw_in (List.mem_of_getElem? (i := 1207) (by decide +kernel)) (by decide +kernel)
theorem l_RX10_117 : Cond.methodLink RX10 117 yX10_greater ∈ gw := gw_in (List.mem_of_getElem? (i := 1211) (by decide +kernel)) (by decide +kernel)
theorem l_RX10_123 : Cond.methodLink RX10 123 yX10_many ∈ gw := gw_in (List.mem_of_getElem? (i := 1214) (by decide +kernel)) (by decide +kernel)
theorem l_RX10_127 : Cond.methodLink RX10 127 yX10_signAt ∈ gw := gw_in (List.mem_of_getElem? (i := 1218) (by decide +kernel)) (by decide +kernel)
theorem l_RL_156 : Cond.methodLink RL 156 yX10_form ∈ gw := gw_in (List.mem_of_getElem? (i := 1222) (by decide +kernel)) (by decide +kernel)
theorem l_RX10_189 : Cond.methodLink RX10 189 yX10_laysForm ∈ gw := gw_in (List.mem_of_getElem? (i := 1226) (by decide +kernel)) (by decide +kernel)
theorem l_RX10_180 : Cond.methodLink RX10 180 yX10_rulesMany ∈ gw := gw_in (List.mem_of_getElem? (i := 1230) (by decide +kernel)) (by decide +kernel)
theorem l_RX10_183 : Cond.methodLink RX10 183 yX10_tells ∈ gw := gw_in (List.mem_of_getElem? (i := 1234) (by decide +kernel)) (by decide +kernel)
theorem l_RX10_186 : Cond.methodLink RX10 186 yX10_nextTold ∈ gw := gw_in (List.mem_of_getElem? (i := 1238) (by decide +kernel)) (by decide +kernel)
theorem l_RL_160 : Cond.methodLink RL 160 yX10_code ∈ gw := gw_in (List.mem_of_getElem? (i := 1242) (by decide +kernel)) (by decide +kernel)
theorem l_RX10_210 : Cond.methodLink RX10 210 yX10_isSign ∈ gw := gw_in (List.mem_of_getElem? (i := 1246) (by decide +kernel)) (by decide +kernel)
theorem l_RX10_214 : Cond.methodLink RX10 214 yX10_laysCodes ∈ gw := gw_in (List.mem_of_getElem? (i := 1251) (by decide +kernel)) (by decide +kernel)
theorem l_RX10_192 : Cond.methodLink RX10 192 yX10_inSequence ∈ gw := gw_in (List.mem_of_getElem? (i := 1255) (by decide +kernel)) (by decide +kernel)
theorem l_RX10_195 : Cond.methodLink RX10 195 yX10_lightest ∈ gw := gw_in (List.mem_of_getElem? (i := 1259) (by decide +kernel)) (by decide +kernel)
theorem l_RX10_198 : Cond.methodLink RX10 198 yX10_joins ∈ gw := gw_in (List.mem_of_getElem? (i := 1263) (by decide +kernel)) (by decide +kernel)
theorem l_RX10_204 : Cond.methodLink RX10 204 yX10_lesser ∈ gw := gw_in (List.mem_of_getElem? (i := 1267) (by decide +kernel)) (by decide +kernel)
theorem l_RX10_201 : Cond.methodLink RX10 201 yX10_ranksCodes ∈ gw := gw_in (List.mem_of_getElem? (i := 1270) (by decide +kernel)) (by decide +kernel)
theorem l_RL_164 : Cond.methodLink RL 164 yX10_coded ∈ gw := gw_in (List.mem_of_getElem? (i := 1274) (by decide +kernel)) (by decide +kernel)
theorem l_RL_22 : Cond.methodLink RL 22 yX10_text ∈ gw := gw_in (List.mem_of_getElem? (i := 1278) (by decide +kernel)) (by decide +kernel)
theorem l_RX10_217 : Cond.methodLink RX10 217 yX10_takes ∈ gw := gw_in (List.mem_of_getElem? (i := 1282) (by decide +kernel)) (by decide +kernel)
theorem l_RL_26 : Cond.methodLink RL 26 yX10_phrase ∈ gw := gw_in (List.mem_of_getElem? (i := 1288) (by decide +kernel)) (by decide +kernel)
theorem l_RX10_224 : Cond.methodLink RX10 224 yX10_laysText ∈ gw := gw_in (List.mem_of_getElem? (i := 1292) (by decide +kernel)) (by decide +kernel)
theorem l_RX10_130 : Cond.methodLink RX10 130 yX10_laysOut ∈ gw := gw_in (List.mem_of_getElem? (i := 1296) (by decide +kernel)) (by decide +kernel)
theorem l_RX10_227 : Cond.methodLink RX10 227 yX10_hitsIn ∈ gw := gw_in (List.mem_of_getElem? (i := 1300) (by decide +kernel)) (by decide +kernel)
theorem l_RX10_307 : Cond.methodLink RX10 307 yX10_isHit ∈ gw := gw_in (List.mem_of_getElem? (i := 1304) (by decide +kernel)) (by decide +kernel)
theorem l_RL_34 : Cond.methodLink RL 34 yX10_fault ∈ gw := gw_in (List.mem_of_getElem? (i := 1308) (by decide +kernel)) (by decide +kernel)
theorem l_RL_39 : Cond.methodLink RL 39 yX10_step ∈ gw := gw_in (List.mem_of_getElem? (i := 1312) (by decide +kernel)) (by decide +kernel)
theorem l_RX10_239 : Cond.methodLink RX10 239 yX10_picked ∈ gw := gw_in (List.mem_of_getElem? (i := 1316) (by decide +kernel)) (by decide +kernel)
theorem l_RX10_236 : Cond.methodLink RX10 236 yX10_laysCounts ∈ gw := gw_in (List.mem_of_getElem? (i := 1320) (by decide +kernel)) (by decide +kernel)
theorem l_RX10_242 : Cond.methodLink RX10 242 yX10_canReplace ∈ gw := gw_in (List.mem_of_getElem? (i := 1324) (by decide +kernel)) (by decide +kernel)
theorem l_RX10_230 : Cond.methodLink RX10 230 yX10_ruleOf ∈ gw := gw_in (List.mem_of_getElem? (i := 1328) (by decide +kernel)) (by decide +kernel)
theorem l_RX10_233 : Cond.methodLink RX10 233 yX10_freeSign ∈ gw := gw_in (List.mem_of_getElem? (i := 1332) (by decide +kernel)) (by decide +kernel)
theorem l_RX10_246 : Cond.methodLink RX10 246 yX10_replaces ∈ gw := gw_in (List.mem_of_getElem? (i := 1336) (by decide +kernel)) (by decide +kernel)
theorem l_RL_43 : Cond.methodLink RL 43 yX10_pack ∈ gw := gw_in (List.mem_of_getElem? (i := 1340) (by decide +kernel)) (by decide +kernel)
theorem l_RL_48 : Cond.methodLink RL 48 yX10_replace ∈ gw := gw_in (List.mem_of_getElem? (i := 1344) (by decide +kernel)) (by decide +kernel)
theorem l_RX10_249 : Cond.methodLink RX10 249 yX10_countOf ∈ gw := gw_in (List.mem_of_getElem? (i := 1348) (by decide +kernel)) (by decide +kernel)
theorem l_RL_52 : Cond.methodLink RL 52 yX10_drop ∈ gw := gw_in (List.mem_of_getElem? (i := 1352) (by decide +kernel)) (by decide +kernel)
theorem l_RX10_258 : Cond.methodLink RX10 258 yX10_canGo ∈ gw := gw_in (List.mem_of_getElem? (i := 1356) (by decide +kernel)) (by decide +kernel)
theorem l_RX10_252 : Cond.methodLink RX10 252 yX10_timesIn ∈ gw := gw_in (List.mem_of_getElem? (i := 1360) (by decide +kernel)) (by decide +kernel)
theorem l_RX10_261 : Cond.methodLink RX10 261 yX10_drops ∈ gw := gw_in (List.mem_of_getElem? (i := 1364) (by decide +kernel)) (by decide +kernel)
theorem l_RX10_255 : Cond.methodLink RX10 255 yX10_puts ∈ gw := gw_in (List.mem_of_getElem? (i := 1368) (by decide +kernel)) (by decide +kernel)
theorem l_RX10_264 : Cond.methodLink RX10 264 yX10_sizeNow ∈ gw := gw_in (List.mem_of_getElem? (i := 1372) (by decide +kernel)) (by decide +kernel)
theorem l_RL_56 : Cond.methodLink RL 56 yX10_trim ∈ gw := gw_in (List.mem_of_getElem? (i := 1376) (by decide +kernel)) (by decide +kernel)
theorem l_RX10_270 : Cond.methodLink RX10 270 yX10_idle ∈ gw := gw_in (List.mem_of_getElem? (i := 1380) (by decide +kernel)) (by decide +kernel)
theorem l_RX10_267 : Cond.methodLink RX10 267 yX10_usesOf ∈ gw := gw_in (List.mem_of_getElem? (i := 1384) (by decide +kernel)) (by decide +kernel)
theorem l_RL_60 : Cond.methodLink RL 60 yX10_unpack ∈ gw := gw_in (List.mem_of_getElem? (i := 1388) (by decide +kernel)) (by decide +kernel)
theorem l_RL_64 : Cond.methodLink RL 64 yX10_put ∈ gw := gw_in (List.mem_of_getElem? (i := 1392) (by decide +kernel)) (by decide +kernel)
theorem l_RX10_273 : Cond.methodLink RX10 273 yX10_opens ∈ gw := gw_in (List.mem_of_getElem? (i := 1396) (by decide +kernel)) (by decide +kernel)
theorem l_RL_68 : Cond.methodLink RL 68 yX10_cut ∈ gw := gw_in (List.mem_of_getElem? (i := 1400) (by decide +kernel)) (by decide +kernel)
theorem l_RL_72 : Cond.methodLink RL 72 yX10_insert ∈ gw := gw_in (List.mem_of_getElem? (i := 1404) (by decide +kernel)) (by decide +kernel)
theorem l_RL_76 : Cond.methodLink RL 76 yX10_sign ∈ gw := gw_in (List.mem_of_getElem? (i := 1408) (by decide +kernel)) (by decide +kernel)
theorem l_RL_80 : Cond.methodLink RL 80 yX10_rule ∈ gw := gw_in (List.mem_of_getElem? (i := 1412) (by decide +kernel)) (by decide +kernel)
theorem l_RL_84 : Cond.methodLink RL 84 yX10_word ∈ gw := gw_in (List.mem_of_getElem? (i := 1418) (by decide +kernel)) (by decide +kernel)
theorem l_RL_88 : Cond.methodLink RL 88 yX10_pairs ∈ gw := gw_in (List.mem_of_getElem? (i := 1422) (by decide +kernel)) (by decide +kernel)
theorem l_RL_92 : Cond.methodLink RL 92 yX10_pick ∈ gw := gw_in (List.mem_of_getElem? (i := 1426) (by decide +kernel)) (by decide +kernel)
theorem l_RL_96 : Cond.methodLink RL 96 yX10_at ∈ gw := gw_in (List.mem_of_getElem? (i := 1430) (by decide +kernel)) (by decide +kernel)
theorem l_RL_100 : Cond.methodLink RL 100 yX10_within ∈ gw := gw_in (List.mem_of_getElem? (i := 1434) (by decide +kernel)) (by decide +kernel)
theorem l_RX10_288 : Cond.methodLink RX10 288 yX10_seeks ∈ gw := gw_in (List.mem_of_getElem? (i := 1439) (by decide +kernel)) (by decide +kernel)
theorem l_RL_104 : Cond.methodLink RL 104 yX10_way ∈ gw := gw_in (List.mem_of_getElem? (i := 1443) (by decide +kernel)) (by decide +kernel)
theorem l_RL_108 : Cond.methodLink RL 108 yX10_ahead ∈ gw := gw_in (List.mem_of_getElem? (i := 1447) (by decide +kernel)) (by decide +kernel)
theorem l_RL_112 : Cond.methodLink RL 112 yX10_where ∈ gw := gw_in (List.mem_of_getElem? (i := 1451) (by decide +kernel)) (by decide +kernel)
theorem l_RL_116 : Cond.methodLink RL 116 yX10_common ∈ gw := gw_in (List.mem_of_getElem? (i := 1455) (by decide +kernel)) (by decide +kernel)
theorem l_RX10_291 : Cond.methodLink RX10 291 yX10_arePlaces ∈ gw := gw_in (List.mem_of_getElem? (i := 1459) (by decide +kernel)) (by decide +kernel)
theorem l_RX10_294 : Cond.methodLink RX10 294 yX10_commonOf ∈ gw := gw_in (List.mem_of_getElem? (i := 1463) (by decide +kernel)) (by decide +kernel)
theorem l_RL_120 : Cond.methodLink RL 120 yX10_compare ∈ gw := gw_in (List.mem_of_getElem? (i := 1467) (by decide +kernel)) (by decide +kernel)
theorem l_RL_124 : Cond.methodLink RL 124 yX10_print ∈ gw := gw_in (List.mem_of_getElem? (i := 1471) (by decide +kernel)) (by decide +kernel)
theorem l_RL_128 : Cond.methodLink RL 128 yX10_repeat ∈ gw := gw_in (List.mem_of_getElem? (i := 1476) (by decide +kernel)) (by decide +kernel)
theorem l_RX10_304 : Cond.methodLink RX10 304 yX10_laysTwice ∈ gw := gw_in (List.mem_of_getElem? (i := 1480) (by decide +kernel)) (by decide +kernel)
theorem l_RL_132 : Cond.methodLink RL 132 yX10_repeatAt ∈ gw := gw_in (List.mem_of_getElem? (i := 1484) (by decide +kernel)) (by decide +kernel)
theorem l_RL_136 : Cond.methodLink RL 136 yX10_hit ∈ gw := gw_in (List.mem_of_getElem? (i := 1488) (by decide +kernel)) (by decide +kernel)
theorem l_RL_140 : Cond.methodLink RL 140 yX10_hits ∈ gw := gw_in (List.mem_of_getElem? (i := 1492) (by decide +kernel)) (by decide +kernel)
theorem l_RX10_310 : Cond.methodLink RX10 310 yX10_crossing ∈ gw := gw_in (List.mem_of_getElem? (i := 1496) (by decide +kernel)) (by decide +kernel)
theorem l_RL_144 : Cond.methodLink RL 144 yX10_gain ∈ gw := gw_in (List.mem_of_getElem? (i := 1500) (by decide +kernel)) (by decide +kernel)
theorem l_RX10_313 : Cond.methodLink RX10 313 yX10_gainOf ∈ gw := gw_in (List.mem_of_getElem? (i := 1504) (by decide +kernel)) (by decide +kernel)
theorem l_RL_148 : Cond.methodLink RL 148 yX10_best ∈ gw := gw_in (List.mem_of_getElem? (i := 1508) (by decide +kernel)) (by decide +kernel)
theorem l_RX10_319 : Cond.methodLink RX10 319 yX10_leastBehind ∈ gw := gw_in (List.mem_of_getElem? (i := 1512) (by decide +kernel)) (by decide +kernel)
theorem l_RX10_316 : Cond.methodLink RX10 316 yX10_isFirst ∈ gw := gw_in (List.mem_of_getElem? (i := 1516) (by decide +kernel)) (by decide +kernel)
theorem l_RL_152 : Cond.methodLink RL 152 yX10_bits ∈ gw := gw_in (List.mem_of_getElem? (i := 1520) (by decide +kernel)) (by decide +kernel)
theorem l_RX10_325 : Cond.methodLink RX10 325 yX10_floatOf ∈ gw := gw_in (List.mem_of_getElem? (i := 1524) (by decide +kernel)) (by decide +kernel)
theorem l_RX10_329 : Cond.methodLink RX10 329 yX10_bitsOf ∈ gw := gw_in (List.mem_of_getElem? (i := 1530) (by decide +kernel)) (by decide +kernel)
theorem l_RL_168 : Cond.methodLink RL 168 yX10_undo ∈ gw := gw_in (List.mem_of_getElem? (i := 1535) (by decide +kernel)) (by decide +kernel)
theorem l_RL_172 : Cond.methodLink RL 172 yX10_image ∈ gw := gw_in (List.mem_of_getElem? (i := 1539) (by decide +kernel)) (by decide +kernel)
theorem l_RL_176 : Cond.methodLink RL 176 yX10_restore ∈ gw := gw_in (List.mem_of_getElem? (i := 1543) (by decide +kernel)) (by decide +kernel)
theorem l_RL_180 : Cond.methodLink RL 180 yX10_count ∈ gw := gw_in (List.mem_of_getElem? (i := 1547) (by decide +kernel)) (by decide +kernel)
theorem l_RX10_334 : Cond.methodLink RX10 334 yX10_deepest ∈ gw := gw_in (List.mem_of_getElem? (i := 1551) (by decide +kernel)) (by decide +kernel)
theorem l_RX10_337 : Cond.methodLink RX10 337 yX10_bitsAll ∈ gw := gw_in (List.mem_of_getElem? (i := 1555) (by decide +kernel)) (by decide +kernel)
theorem l_RX9_45 : Cond.methodLinkNest RX9 45 yX1_init "PairPacker" ∈ nestW := List.mem_of_getElem? (i := 0) (by decide +kernel)
theorem l_RX9_59 : Cond.methodLinkNest RX9 59 yX8_init "PairPacker" ∈ nestW := List.mem_of_getElem? (i := 1) (by decide +kernel)
theorem l_RX9_66 : Cond.methodLinkNest RX9 66 yX5_init "PairPacker" ∈ nestW := List.mem_of_getElem? (i := 2) (by decide +kernel)
theorem l_RX9_83 : Cond.methodLinkNest RX9 83 yX3_init "PairPacker" ∈ nestW := List.mem_of_getElem? (i := 3) (by decide +kernel)
theorem l_RX9_90 : Cond.methodLinkNest RX9 90 yX7_init "PairPacker" ∈ nestW := List.mem_of_getElem? (i := 4) (by decide +kernel)
theorem l_RX7_11 : Cond.methodLinkNest RX7 11 yX3_init "PairPacker" ∈ nestW := List.mem_of_getElem? (i := 5) (by decide +kernel)
theorem l_RX9_97 : Cond.methodLinkNest RX9 97 yX0_init "PairPacker" ∈ nestW := List.mem_of_getElem? (i := 6) (by decide +kernel)
theorem l_RX8_37 : Cond.methodLinkNest RX8 37 yX9_isLetter "PairPacker" ∈ nestW := List.mem_of_getElem? (i := 7) (by decide +kernel)
theorem l_RX1_68 : Cond.methodLinkNest RX1 68 yX9_isLetter "PairPacker" ∈ nestW := List.mem_of_getElem? (i := 8) (by decide +kernel)
theorem l_RX2_35 : Cond.methodLinkNest RX2 35 yX9_isLetter "PairPacker" ∈ nestW := List.mem_of_getElem? (i := 9) (by decide +kernel)
theorem f_RX6_15 : Cond.fieldLink RX6 15 (TX6 0).1 (TX6 0).2.1 (TX6 0).2.2.1 ∈ gw := gw_in (List.mem_of_getElem? (i := 34) (by decide +kernel)) (by decide +kernel)
theorem f_RX6_9 : Cond.fieldLink RX6 9 (TX6 1).1 (TX6 1).2.1 (TX6 1).2.2.1 ∈ gw := gw_in (List.mem_of_getElem? (i := 35) (by decide +kernel)) (by decide +kernel)
theorem f_RX2_14 : Cond.fieldLink RX2 14 (TX2 0).1 (TX2 0).2.1 (TX2 0).2.2.1 ∈ gw := gw_in (List.mem_of_getElem? (i := 43) (by decide +kernel)) (by decide +kernel)
theorem f_RX2_20 : Cond.fieldLink RX2 20 (TX2 1).1 (TX2 1).2.1 (TX2 1).2.2.1 ∈ gw := gw_in (List.mem_of_getElem? (i := 44) (by decide +kernel)) (by decide +kernel)
theorem f_RX2_24 : Cond.fieldLink RX2 24 (TX2 2).1 (TX2 2).2.1 (TX2 2).2.2.1 ∈ gw := gw_in (List.mem_of_getElem? (i := 45) (by decide +kernel)) (by decide +kernel)
theorem f_RX4_11 : Cond.fieldLink RX4 11 (TX4 0).1 (TX4 0).2.1 (TX4 0).2.2.1 ∈ gw := gw_in (List.mem_of_getElem? (i := 62) (by decide +kernel)) (by decide +kernel)
theorem f_RX4_17 : Cond.fieldLink RX4 17 (TX4 1).1 (TX4 1).2.1 (TX4 1).2.2.1 ∈ gw := gw_in (List.mem_of_getElem? (i := 63) (by decide +kernel)) (by decide +kernel)
theorem f_RX4_21 : Cond.fieldLink RX4 21 (TX4 2).1 (TX4 2).2.1 (TX4 2).2.2.1 ∈ gw := gw_in (List.mem_of_getElem? (i := 64) (by decide +kernel)) (by decide +kernel)
theorem f_RX1_12 : Cond.fieldLink RX1 12 (TX1 0).1 (TX1 0).2.1 (TX1 0).2.2.1 ∈ gw := gw_in (List.mem_of_getElem? (i := 84) (by decide +kernel)) (by decide +kernel)
theorem f_RX1_18 : Cond.fieldLink RX1 18 (TX1 1).1 (TX1 1).2.1 (TX1 1).2.2.1 ∈ gw := gw_in (List.mem_of_getElem? (i := 85) (by decide +kernel)) (by decide +kernel)
theorem f_RX1_27 : Cond.fieldLink RX1 27 (TX1 2).1 (TX1 2).2.1 (TX1 2).2.2.1 ∈ gw := gw_in (List.mem_of_getElem? (i := 86) (by decide +kernel)) (by decide +kernel)
theorem f_RX1_31 : Cond.fieldLink RX1 31 (TX1 3).1 (TX1 3).2.1 (TX1 3).2.2.1 ∈ gw := gw_in (List.mem_of_getElem? (i := 87) (by decide +kernel)) (by decide +kernel)
theorem f_RX1_35 : Cond.fieldLink RX1 35 (TX1 4).1 (TX1 4).2.1 (TX1 4).2.2.1 ∈ gw := gw_in (List.mem_of_getElem? (i := 88) (by decide +kernel)) (by decide +kernel)
theorem f_RX1_38 : Cond.fieldLink RX1 38 (TX1 5).1 (TX1 5).2.1 (TX1 5).2.2.1 ∈ gw := gw_in (List.mem_of_getElem? (i := 89) (by decide +kernel)) (by decide +kernel)
theorem f_RX1_41 : Cond.fieldLink RX1 41 (TX1 6).1 (TX1 6).2.1 (TX1 6).2.2.1 ∈ gw := gw_in (List.mem_of_getElem? (i := 90) (by decide +kernel)) (by decide +kernel)
theorem f_RX8_9 : Cond.fieldLink RX8 9 (TX8 0).1 (TX8 0).2.1 (TX8 0).2.2.1 ∈ gw := gw_in (List.mem_of_getElem? (i := 115) (by decide +kernel)) (by decide +kernel)
theorem f_RX8_15 : Cond.fieldLink RX8 15 (TX8 1).1 (TX8 1).2.1 (TX8 1).2.2.1 ∈ gw := gw_in (List.mem_of_getElem? (i := 116) (by decide +kernel)) (by decide +kernel)
theorem f_RX8_23 : Cond.fieldLink RX8 23 (TX8 2).1 (TX8 2).2.1 (TX8 2).2.2.1 ∈ gw := gw_in (List.mem_of_getElem? (i := 117) (by decide +kernel)) (by decide +kernel)
theorem f_RX8_27 : Cond.fieldLink RX8 27 (TX8 3).1 (TX8 3).2.1 (TX8 3).2.2.1 ∈ gw := gw_in (List.mem_of_getElem? (i := 118) (by decide +kernel)) (by decide +kernel)
theorem f_RX8_31 : Cond.fieldLink RX8 31 (TX8 4).1 (TX8 4).2.1 (TX8 4).2.2.1 ∈ gw := gw_in (List.mem_of_getElem? (i := 119) (by decide +kernel)) (by decide +kernel)
theorem f_RX5_14 : Cond.fieldLink RX5 14 (TX5 0).1 (TX5 0).2.1 (TX5 0).2.2.1 ∈ gw := gw_in (List.mem_of_getElem? (i := 139) (by decide +kernel)) (by decide +kernel)
theorem f_RX5_20 : Cond.fieldLink RX5 20 (TX5 1).1 (TX5 1).2.1 (TX5 1).2.2.1 ∈ gw := gw_in (List.mem_of_getElem? (i := 140) (by decide +kernel)) (by decide +kernel)
theorem f_RX5_23 : Cond.fieldLink RX5 23 (TX5 2).1 (TX5 2).2.1 (TX5 2).2.2.1 ∈ gw := gw_in (List.mem_of_getElem? (i := 141) (by decide +kernel)) (by decide +kernel)
theorem f_RX5_26 : Cond.fieldLink RX5 26 (TX5 3).1 (TX5 3).2.1 (TX5 3).2.2.1 ∈ gw := gw_in (List.mem_of_getElem? (i := 142) (by decide +kernel)) (by decide +kernel)
theorem f_RX5_29 : Cond.fieldLink RX5 29 (TX5 4).1 (TX5 4).2.1 (TX5 4).2.2.1 ∈ gw := gw_in (List.mem_of_getElem? (i := 143) (by decide +kernel)) (by decide +kernel)
theorem f_RX5_33 : Cond.fieldLink RX5 33 (TX5 5).1 (TX5 5).2.1 (TX5 5).2.2.1 ∈ gw := gw_in (List.mem_of_getElem? (i := 144) (by decide +kernel)) (by decide +kernel)
theorem f_RX5_37 : Cond.fieldLink RX5 37 (TX5 6).1 (TX5 6).2.1 (TX5 6).2.2.1 ∈ gw := gw_in (List.mem_of_getElem? (i := 145) (by decide +kernel)) (by decide +kernel)
theorem f_RX3_9 : Cond.fieldLink RX3 9 (TX3 0).1 (TX3 0).2.1 (TX3 0).2.2.1 ∈ gw := gw_in (List.mem_of_getElem? (i := 169) (by decide +kernel)) (by decide +kernel)
theorem f_RX3_20 : Cond.fieldLink RX3 20 (TX3 1).1 (TX3 1).2.1 (TX3 1).2.2.1 ∈ gw := gw_in (List.mem_of_getElem? (i := 170) (by decide +kernel)) (by decide +kernel)
theorem f_RX7_12 : Cond.fieldLink RX7 12 (TX7 0).1 (TX7 0).2.1 (TX7 0).2.2.1 ∈ gw := gw_in (List.mem_of_getElem? (i := 186) (by decide +kernel)) (by decide +kernel)
theorem f_RX7_18 : Cond.fieldLink RX7 18 (TX7 1).1 (TX7 1).2.1 (TX7 1).2.2.1 ∈ gw := gw_in (List.mem_of_getElem? (i := 187) (by decide +kernel)) (by decide +kernel)
theorem f_RX7_21 : Cond.fieldLink RX7 21 (TX7 2).1 (TX7 2).2.1 (TX7 2).2.2.1 ∈ gw := gw_in (List.mem_of_getElem? (i := 188) (by decide +kernel)) (by decide +kernel)
theorem f_RX7_30 : Cond.fieldLink RX7 30 (TX7 3).1 (TX7 3).2.1 (TX7 3).2.2.1 ∈ gw := gw_in (List.mem_of_getElem? (i := 189) (by decide +kernel)) (by decide +kernel)
theorem f_RX0_9 : Cond.fieldLink RX0 9 (TX0 0).1 (TX0 0).2.1 (TX0 0).2.2.1 ∈ gw := gw_in (List.mem_of_getElem? (i := 207) (by decide +kernel)) (by decide +kernel)
theorem f_RX0_15 : Cond.fieldLink RX0 15 (TX0 1).1 (TX0 1).2.1 (TX0 1).2.2.1 ∈ gw := gw_in (List.mem_of_getElem? (i := 208) (by decide +kernel)) (by decide +kernel)
theorem f_RX0_18 : Cond.fieldLink RX0 18 (TX0 2).1 (TX0 2).2.1 (TX0 2).2.2.1 ∈ gw := gw_in (List.mem_of_getElem? (i := 209) (by decide +kernel)) (by decide +kernel)
theorem f_RX0_21 : Cond.fieldLink RX0 21 (TX0 3).1 (TX0 3).2.1 (TX0 3).2.2.1 ∈ gw := gw_in (List.mem_of_getElem? (i := 210) (by decide +kernel)) (by decide +kernel)
theorem f_RX0_24 : Cond.fieldLink RX0 24 (TX0 4).1 (TX0 4).2.1 (TX0 4).2.2.1 ∈ gw := gw_in (List.mem_of_getElem? (i := 211) (by decide +kernel)) (by decide +kernel)
theorem f_RX0_32 : Cond.fieldLink RX0 32 (TX0 5).1 (TX0 5).2.1 (TX0 5).2.2.1 ∈ gw := gw_in (List.mem_of_getElem? (i := 212) (by decide +kernel)) (by decide +kernel)
theorem f_RX9_12 : Cond.fieldLink RX9 12 (TX9 0).1 (TX9 0).2.1 (TX9 0).2.2.1 ∈ gw := gw_in (List.mem_of_getElem? (i := 226) (by decide +kernel)) (by decide +kernel)
theorem f_RX9_19 : Cond.fieldLink RX9 19 (TX9 1).1 (TX9 1).2.1 (TX9 1).2.2.1 ∈ gw := gw_in (List.mem_of_getElem? (i := 227) (by decide +kernel)) (by decide +kernel)
theorem f_RX9_23 : Cond.fieldLink RX9 23 (TX9 2).1 (TX9 2).2.1 (TX9 2).2.2.1 ∈ gw := gw_in (List.mem_of_getElem? (i := 228) (by decide +kernel)) (by decide +kernel)
theorem f_RX9_27 : Cond.fieldLink RX9 27 (TX9 3).1 (TX9 3).2.1 (TX9 3).2.2.1 ∈ gw := gw_in (List.mem_of_getElem? (i := 229) (by decide +kernel)) (by decide +kernel)
theorem f_RX9_36 : Cond.fieldLink RX9 36 (TX9 4).1 (TX9 4).2.1 (TX9 4).2.2.1 ∈ gw := gw_in (List.mem_of_getElem? (i := 230) (by decide +kernel)) (by decide +kernel)
theorem f_RX9_40 : Cond.fieldLink RX9 40 (TX9 5).1 (TX9 5).2.1 (TX9 5).2.2.1 ∈ gw := gw_in (List.mem_of_getElem? (i := 231) (by decide +kernel)) (by decide +kernel)
theorem f_RX9_46 : Cond.fieldLink RX9 46 (TX9 6).1 (TX9 6).2.1 (TX9 6).2.2.1 ∈ gw := gw_in (List.mem_of_getElem? (i := 232) (by decide +kernel)) (by decide +kernel)
theorem f_RX9_50 : Cond.fieldLink RX9 50 (TX9 7).1 (TX9 7).2.1 (TX9 7).2.2.1 ∈ gw := gw_in (List.mem_of_getElem? (i := 233) (by decide +kernel)) (by decide +kernel)
theorem f_RX9_54 : Cond.fieldLink RX9 54 (TX9 8).1 (TX9 8).2.1 (TX9 8).2.2.1 ∈ gw := gw_in (List.mem_of_getElem? (i := 234) (by decide +kernel)) (by decide +kernel)
theorem f_RX9_60 : Cond.fieldLink RX9 60 (TX9 9).1 (TX9 9).2.1 (TX9 9).2.2.1 ∈ gw := gw_in (List.mem_of_getElem? (i := 235) (by decide +kernel)) (by decide +kernel)
theorem f_RX9_67 : Cond.fieldLink RX9 67 (TX9 10).1 (TX9 10).2.1 (TX9 10).2.2.1 ∈ gw := gw_in (List.mem_of_getElem? (i := 236) (by decide +kernel)) (by decide +kernel)
theorem f_RX9_71 : Cond.fieldLink RX9 71 (TX9 11).1 (TX9 11).2.1 (TX9 11).2.2.1 ∈ gw := gw_in (List.mem_of_getElem? (i := 237) (by decide +kernel)) (by decide +kernel)
theorem f_RX9_75 : Cond.fieldLink RX9 75 (TX9 12).1 (TX9 12).2.1 (TX9 12).2.2.1 ∈ gw := gw_in (List.mem_of_getElem? (i := 238) (by decide +kernel)) (by decide +kernel)
theorem f_RX9_78 : Cond.fieldLink RX9 78 (TX9 13).1 (TX9 13).2.1 (TX9 13).2.2.1 ∈ gw := gw_in (List.mem_of_getElem? (i := 239) (by decide +kernel)) (by decide +kernel)
theorem f_RX9_84 : Cond.fieldLink RX9 84 (TX9 14).1 (TX9 14).2.1 (TX9 14).2.2.1 ∈ gw := gw_in (List.mem_of_getElem? (i := 240) (by decide +kernel)) (by decide +kernel)
theorem f_RX9_91 : Cond.fieldLink RX9 91 (TX9 15).1 (TX9 15).2.1 (TX9 15).2.2.1 ∈ gw := gw_in (List.mem_of_getElem? (i := 241) (by decide +kernel)) (by decide +kernel)
theorem f_RX9_98 : Cond.fieldLink RX9 98 (TX9 16).1 (TX9 16).2.1 (TX9 16).2.2.1 ∈ gw := gw_in (List.mem_of_getElem? (i := 242) (by decide +kernel)) (by decide +kernel)
theorem f_RX9_102 : Cond.fieldLink RX9 102 (TX9 17).1 (TX9 17).2.1 (TX9 17).2.2.1 ∈ gw := gw_in (List.mem_of_getElem? (i := 243) (by decide +kernel)) (by decide +kernel)
theorem f_RX10_1 : Cond.fieldLink RX10 1 (TX10 0).1 (TX10 0).2.1 (TX10 0).2.2.1 ∈ gw := gw_in (List.mem_of_getElem? (i := 1032) (by decide +kernel)) (by decide +kernel)
theorem f_RX10_13 : Cond.fieldLink RX10 13 (TX10 1).1 (TX10 1).2.1 (TX10 1).2.2.1 ∈ gw := gw_in (List.mem_of_getElem? (i := 1033) (by decide +kernel)) (by decide +kernel)
theorem f_RX10_17 : Cond.fieldLink RX10 17 (TX10 2).1 (TX10 2).2.1 (TX10 2).2.2.1 ∈ gw := gw_in (List.mem_of_getElem? (i := 1034) (by decide +kernel)) (by decide +kernel)
theorem f_RX10_20 : Cond.fieldLink RX10 20 (TX10 3).1 (TX10 3).2.1 (TX10 3).2.2.1 ∈ gw := gw_in (List.mem_of_getElem? (i := 1035) (by decide +kernel)) (by decide +kernel)
theorem f_RX10_23 : Cond.fieldLink RX10 23 (TX10 4).1 (TX10 4).2.1 (TX10 4).2.2.1 ∈ gw := gw_in (List.mem_of_getElem? (i := 1036) (by decide +kernel)) (by decide +kernel)
theorem f_RX10_85 : Cond.fieldLink RX10 85 (TX10 5).1 (TX10 5).2.1 (TX10 5).2.2.1 ∈ gw := gw_in (List.mem_of_getElem? (i := 1037) (by decide +kernel)) (by decide +kernel)
theorem f_RX10_26 : Cond.fieldLink RX10 26 (TX10 6).1 (TX10 6).2.1 (TX10 6).2.2.1 ∈ gw := gw_in (List.mem_of_getElem? (i := 1038) (by decide +kernel)) (by decide +kernel)
theorem f_RX10_30 : Cond.fieldLink RX10 30 (TX10 7).1 (TX10 7).2.1 (TX10 7).2.2.1 ∈ gw := gw_in (List.mem_of_getElem? (i := 1039) (by decide +kernel)) (by decide +kernel)
theorem f_RX10_33 : Cond.fieldLink RX10 33 (TX10 8).1 (TX10 8).2.1 (TX10 8).2.2.1 ∈ gw := gw_in (List.mem_of_getElem? (i := 1040) (by decide +kernel)) (by decide +kernel)
theorem f_RX10_36 : Cond.fieldLink RX10 36 (TX10 9).1 (TX10 9).2.1 (TX10 9).2.2.1 ∈ gw := gw_in (List.mem_of_getElem? (i := 1041) (by decide +kernel)) (by decide +kernel)
theorem f_RX10_39 : Cond.fieldLink RX10 39 (TX10 10).1 (TX10 10).2.1 (TX10 10).2.2.1 ∈ gw := gw_in (List.mem_of_getElem? (i := 1042) (by decide +kernel)) (by decide +kernel)
theorem f_RX10_120 : Cond.fieldLink RX10 120 (TX10 11).1 (TX10 11).2.1 (TX10 11).2.2.1 ∈ gw := gw_in (List.mem_of_getElem? (i := 1043) (by decide +kernel)) (by decide +kernel)
theorem f_RX10_42 : Cond.fieldLink RX10 42 (TX10 12).1 (TX10 12).2.1 (TX10 12).2.2.1 ∈ gw := gw_in (List.mem_of_getElem? (i := 1044) (by decide +kernel)) (by decide +kernel)
theorem f_RX10_137 : Cond.fieldLink RX10 137 (TX10 13).1 (TX10 13).2.1 (TX10 13).2.2.1 ∈ gw := gw_in (List.mem_of_getElem? (i := 1045) (by decide +kernel)) (by decide +kernel)
theorem f_RX10_140 : Cond.fieldLink RX10 140 (TX10 14).1 (TX10 14).2.1 (TX10 14).2.2.1 ∈ gw := gw_in (List.mem_of_getElem? (i := 1046) (by decide +kernel)) (by decide +kernel)
theorem f_RX10_46 : Cond.fieldLink RX10 46 (TX10 15).1 (TX10 15).2.1 (TX10 15).2.2.1 ∈ gw := gw_in (List.mem_of_getElem? (i := 1047) (by decide +kernel)) (by decide +kernel)
theorem f_RX10_221 : Cond.fieldLink RX10 221 (TX10 16).1 (TX10 16).2.1 (TX10 16).2.2.1 ∈ gw := gw_in (List.mem_of_getElem? (i := 1048) (by decide +kernel)) (by decide +kernel)
theorem f_RX10_49 : Cond.fieldLink RX10 49 (TX10 17).1 (TX10 17).2.1 (TX10 17).2.2.1 ∈ gw := gw_in (List.mem_of_getElem? (i := 1049) (by decide +kernel)) (by decide +kernel)
theorem f_RX10_52 : Cond.fieldLink RX10 52 (TX10 18).1 (TX10 18).2.1 (TX10 18).2.2.1 ∈ gw := gw_in (List.mem_of_getElem? (i := 1050) (by decide +kernel)) (by decide +kernel)
theorem f_RX10_147 : Cond.fieldLink RX10 147 (TX10 19).1 (TX10 19).2.1 (TX10 19).2.2.1 ∈ gw := gw_in (List.mem_of_getElem? (i := 1051) (by decide +kernel)) (by decide +kernel)
theorem f_RX10_150 : Cond.fieldLink RX10 150 (TX10 20).1 (TX10 20).2.1 (TX10 20).2.2.1 ∈ gw := gw_in (List.mem_of_getElem? (i := 1052) (by decide +kernel)) (by decide +kernel)
theorem f_RX10_156 : Cond.fieldLink RX10 156 (TX10 21).1 (TX10 21).2.1 (TX10 21).2.2.1 ∈ gw := gw_in (List.mem_of_getElem? (i := 1053) (by decide +kernel)) (by decide +kernel)
theorem f_RX10_55 : Cond.fieldLink RX10 55 (TX10 22).1 (TX10 22).2.1 (TX10 22).2.2.1 ∈ gw := gw_in (List.mem_of_getElem? (i := 1054) (by decide +kernel)) (by decide +kernel)
theorem f_RX10_58 : Cond.fieldLink RX10 58 (TX10 23).1 (TX10 23).2.1 (TX10 23).2.2.1 ∈ gw := gw_in (List.mem_of_getElem? (i := 1055) (by decide +kernel)) (by decide +kernel)
theorem f_RX10_177 : Cond.fieldLink RX10 177 (TX10 24).1 (TX10 24).2.1 (TX10 24).2.2.1 ∈ gw := gw_in (List.mem_of_getElem? (i := 1056) (by decide +kernel)) (by decide +kernel)
theorem f_RX10_61 : Cond.fieldLink RX10 61 (TX10 25).1 (TX10 25).2.1 (TX10 25).2.2.1 ∈ gw := gw_in (List.mem_of_getElem? (i := 1057) (by decide +kernel)) (by decide +kernel)
theorem f_RX10_64 : Cond.fieldLink RX10 64 (TX10 26).1 (TX10 26).2.1 (TX10 26).2.2.1 ∈ gw := gw_in (List.mem_of_getElem? (i := 1058) (by decide +kernel)) (by decide +kernel)
theorem f_RX10_67 : Cond.fieldLink RX10 67 (TX10 27).1 (TX10 27).2.1 (TX10 27).2.2.1 ∈ gw := gw_in (List.mem_of_getElem? (i := 1059) (by decide +kernel)) (by decide +kernel)
theorem f_RX10_70 : Cond.fieldLink RX10 70 (TX10 28).1 (TX10 28).2.1 (TX10 28).2.2.1 ∈ gw := gw_in (List.mem_of_getElem? (i := 1060) (by decide +kernel)) (by decide +kernel)
theorem f_RX10_73 : Cond.fieldLink RX10 73 (TX10 29).1 (TX10 29).2.1 (TX10 29).2.2.1 ∈ gw := gw_in (List.mem_of_getElem? (i := 1061) (by decide +kernel)) (by decide +kernel)
theorem f_RX10_207 : Cond.fieldLink RX10 207 (TX10 30).1 (TX10 30).2.1 (TX10 30).2.2.1 ∈ gw := gw_in (List.mem_of_getElem? (i := 1062) (by decide +kernel)) (by decide +kernel)
theorem f_RX10_76 : Cond.fieldLink RX10 76 (TX10 31).1 (TX10 31).2.1 (TX10 31).2.2.1 ∈ gw := gw_in (List.mem_of_getElem? (i := 1063) (by decide +kernel)) (by decide +kernel)
theorem f_RX10_79 : Cond.fieldLink RX10 79 (TX10 32).1 (TX10 32).2.1 (TX10 32).2.2.1 ∈ gw := gw_in (List.mem_of_getElem? (i := 1064) (by decide +kernel)) (by decide +kernel)
theorem f_RX10_82 : Cond.fieldLink RX10 82 (TX10 33).1 (TX10 33).2.1 (TX10 33).2.2.1 ∈ gw := gw_in (List.mem_of_getElem? (i := 1065) (by decide +kernel)) (by decide +kernel)
theorem f_RX10_280 : Cond.fieldLink RX10 280 (TX10 34).1 (TX10 34).2.1 (TX10 34).2.2.1 ∈ gw := gw_in (List.mem_of_getElem? (i := 1066) (by decide +kernel)) (by decide +kernel)
theorem f_RX10_283 : Cond.fieldLink RX10 283 (TX10 35).1 (TX10 35).2.1 (TX10 35).2.2.1 ∈ gw := gw_in (List.mem_of_getElem? (i := 1067) (by decide +kernel)) (by decide +kernel)
theorem f_RX10_298 : Cond.fieldLink RX10 298 (TX10 36).1 (TX10 36).2.1 (TX10 36).2.2.1 ∈ gw := gw_in (List.mem_of_getElem? (i := 1068) (by decide +kernel)) (by decide +kernel)
theorem f_RX10_301 : Cond.fieldLink RX10 301 (TX10 37).1 (TX10 37).2.1 (TX10 37).2.2.1 ∈ gw := gw_in (List.mem_of_getElem? (i := 1069) (by decide +kernel)) (by decide +kernel)
theorem c_RL_7 : Cond.classLink RL 7 RX9 ∈ gw := gw_in (List.mem_of_getElem? (i := 14) (by decide +kernel)) (by decide +kernel)
theorem c_RX9_9 : Cond.classLink RX9 9 RX2 ∈ gw := gw_in (List.mem_of_getElem? (i := 22) (by decide +kernel)) (by decide +kernel)
theorem c_RX2_9 : Cond.classLink RX2 9 RX6 ∈ gw := gw_in (List.mem_of_getElem? (i := 28) (by decide +kernel)) (by decide +kernel)
theorem c_RX9_16 : Cond.classLink RX9 16 RX4 ∈ gw := gw_in (List.mem_of_getElem? (i := 53) (by decide +kernel)) (by decide +kernel)
theorem c_RX4_9 : Cond.classLink RX4 9 RX2 ∈ gw := gw_in (List.mem_of_getElem? (i := 59) (by decide +kernel)) (by decide +kernel)
theorem c_RX9_31 : Cond.classLink RX9 31 RX6 ∈ gw := gw_in (List.mem_of_getElem? (i := 72) (by decide +kernel)) (by decide +kernel)
theorem c_RX9_43 : Cond.classLink RX9 43 RX1 ∈ gw := gw_in (List.mem_of_getElem? (i := 74) (by decide +kernel)) (by decide +kernel)
theorem c_RX1_9 : Cond.classLink RX1 9 RX2 ∈ gw := gw_in (List.mem_of_getElem? (i := 80) (by decide +kernel)) (by decide +kernel)
theorem c_RX1_22 : Cond.classLink RX1 22 RX6 ∈ gw := gw_in (List.mem_of_getElem? (i := 82) (by decide +kernel)) (by decide +kernel)
theorem c_RX9_57 : Cond.classLink RX9 57 RX8 ∈ gw := gw_in (List.mem_of_getElem? (i := 107) (by decide +kernel)) (by decide +kernel)
theorem c_RX8_18 : Cond.classLink RX8 18 RX6 ∈ gw := gw_in (List.mem_of_getElem? (i := 113) (by decide +kernel)) (by decide +kernel)
theorem c_RX9_64 : Cond.classLink RX9 64 RX5 ∈ gw := gw_in (List.mem_of_getElem? (i := 131) (by decide +kernel)) (by decide +kernel)
theorem c_RX5_9 : Cond.classLink RX5 9 RX6 ∈ gw := gw_in (List.mem_of_getElem? (i := 137) (by decide +kernel)) (by decide +kernel)
theorem c_RX9_81 : Cond.classLink RX9 81 RX3 ∈ gw := gw_in (List.mem_of_getElem? (i := 161) (by decide +kernel)) (by decide +kernel)
theorem c_RX3_15 : Cond.classLink RX3 15 RX6 ∈ gw := gw_in (List.mem_of_getElem? (i := 167) (by decide +kernel)) (by decide +kernel)
theorem c_RX9_88 : Cond.classLink RX9 88 RX7 ∈ gw := gw_in (List.mem_of_getElem? (i := 176) (by decide +kernel)) (by decide +kernel)
theorem c_RX7_9 : Cond.classLink RX7 9 RX3 ∈ gw := gw_in (List.mem_of_getElem? (i := 182) (by decide +kernel)) (by decide +kernel)
theorem c_RX7_25 : Cond.classLink RX7 25 RX6 ∈ gw := gw_in (List.mem_of_getElem? (i := 184) (by decide +kernel)) (by decide +kernel)
theorem c_RX9_95 : Cond.classLink RX9 95 RX0 ∈ gw := gw_in (List.mem_of_getElem? (i := 199) (by decide +kernel)) (by decide +kernel)
theorem c_RX0_27 : Cond.classLink RX0 27 RX6 ∈ gw := gw_in (List.mem_of_getElem? (i := 205) (by decide +kernel)) (by decide +kernel)
theorem c_RL_10 : Cond.classLink RL 10 RX10 ∈ gw := gw_in (List.mem_of_getElem? (i := 1026) (by decide +kernel)) (by decide +kernel)
theorem n_RX9 : Cond.instantiable RX9 18 ∈ gw := gw_in (List.mem_of_getElem? (i := 15) (by decide +kernel)) (by decide +kernel)
theorem n_RX2 : Cond.instantiable RX2 3 ∈ gw := gw_in (List.mem_of_getElem? (i := 23) (by decide +kernel)) (by decide +kernel)
theorem n_RX6 : Cond.instantiable RX6 2 ∈ gw := gw_in (List.mem_of_getElem? (i := 29) (by decide +kernel)) (by decide +kernel)
theorem n_RX4 : Cond.instantiable RX4 3 ∈ gw := gw_in (List.mem_of_getElem? (i := 54) (by decide +kernel)) (by decide +kernel)
theorem n_RX1 : Cond.instantiable RX1 7 ∈ gw := gw_in (List.mem_of_getElem? (i := 75) (by decide +kernel)) (by decide +kernel)
theorem n_RX8 : Cond.instantiable RX8 5 ∈ gw := gw_in (List.mem_of_getElem? (i := 108) (by decide +kernel)) (by decide +kernel)
theorem n_RX5 : Cond.instantiable RX5 7 ∈ gw := gw_in (List.mem_of_getElem? (i := 132) (by decide +kernel)) (by decide +kernel)
theorem n_RX3 : Cond.instantiable RX3 2 ∈ gw := gw_in (List.mem_of_getElem? (i := 162) (by decide +kernel)) (by decide +kernel)
theorem n_RX7 : Cond.instantiable RX7 4 ∈ gw := gw_in (List.mem_of_getElem? (i := 177) (by decide +kernel)) (by decide +kernel)
theorem n_RX0 : Cond.instantiable RX0 6 ∈ gw := gw_in (List.mem_of_getElem? (i := 200) (by decide +kernel)) (by decide +kernel)
theorem n_RX10 : Cond.instantiable RX10 38 ∈ gw := gw_in (List.mem_of_getElem? (i := 1027) (by decide +kernel)) (by decide +kernel)
theorem a_int : Cond.arrayClass .int ∈ gw := gw_in (List.mem_of_getElem? (i := 41) (by decide +kernel)) (by decide +kernel)
theorem a_boolean : Cond.arrayClass .boolean ∈ gw := gw_in (List.mem_of_getElem? (i := 106) (by decide +kernel)) (by decide +kernel)
theorem a_byte : Cond.arrayClass .byte ∈ gw := gw_in (List.mem_of_getElem? (i := 1147) (by decide +kernel)) (by decide +kernel)
theorem ci_RX9_284 : Cond.constant RX9 284 1000003 ∈ gw := gw_in (List.mem_of_getElem? (i := 789) (by decide +kernel)) (by decide +kernel)
theorem ci_RX9_308 : Cond.constant RX9 308 (-2147483648) ∈ gw := gw_in (List.mem_of_getElem? (i := 890) (by decide +kernel)) (by decide +kernel)
theorem ci_RX10_297 : Cond.constant RX10 297 1000003 ∈ gw := gw_in (List.mem_of_getElem? (i := 1475) (by decide +kernel)) (by decide +kernel)
theorem ci_RX10_333 : Cond.constant RX10 333 (-2147483648) ∈ gw := gw_in (List.mem_of_getElem? (i := 1534) (by decide +kernel)) (by decide +kernel)
theorem cl_RX10_102 : Cond.constantLong RX10 102 26 ∈ gw := gw_in (List.mem_of_getElem? (i := 1175) (by decide +kernel)) (by decide +kernel)
theorem cl_RX10_104 : Cond.constantLong RX10 104 85 ∈ gw := gw_in (List.mem_of_getElem? (i := 1176) (by decide +kernel)) (by decide +kernel)
theorem cl_RX10_96 : Cond.constantLong RX10 96 25 ∈ gw := gw_in (List.mem_of_getElem? (i := 1250) (by decide +kernel)) (by decide +kernel)
theorem cl_RX10_143 : Cond.constantLong RX10 143 97 ∈ gw := gw_in (List.mem_of_getElem? (i := 1286) (by decide +kernel)) (by decide +kernel)
theorem cl_RX10_145 : Cond.constantLong RX10 145 122 ∈ gw := gw_in (List.mem_of_getElem? (i := 1287) (by decide +kernel)) (by decide +kernel)
theorem cl_RX10_276 : Cond.constantLong RX10 276 10 ∈ gw := gw_in (List.mem_of_getElem? (i := 1416) (by decide +kernel)) (by decide +kernel)
theorem cl_RX10_278 : Cond.constantLong RX10 278 21 ∈ gw := gw_in (List.mem_of_getElem? (i := 1417) (by decide +kernel)) (by decide +kernel)
theorem cl_RX10_286 : Cond.constantLong RX10 286 2 ∈ gw := gw_in (List.mem_of_getElem? (i := 1438) (by decide +kernel)) (by decide +kernel)
theorem cf_RX9_380 : Cond.constantFloat RX9 380 1056964608 ∈ gw := gw_in (List.mem_of_getElem? (i := 898) (by decide +kernel)) (by decide +kernel)
theorem cf_RX9_382 : Cond.constantFloat RX9 382 1258291200 ∈ gw := gw_in (List.mem_of_getElem? (i := 899) (by decide +kernel)) (by decide +kernel)
theorem cf_RX9_381 : Cond.constantFloat RX9 381 1048576000 ∈ gw := gw_in (List.mem_of_getElem? (i := 908) (by decide +kernel)) (by decide +kernel)
theorem cf_RX10_322 : Cond.constantFloat RX10 322 1056964608 ∈ gw := gw_in (List.mem_of_getElem? (i := 1528) (by decide +kernel)) (by decide +kernel)
theorem cf_RX10_324 : Cond.constantFloat RX10 324 1048576000 ∈ gw := gw_in (List.mem_of_getElem? (i := 1529) (by decide +kernel)) (by decide +kernel)
theorem cf_RX10_323 : Cond.constantFloat RX10 323 1258291200 ∈ gw := gw_in (List.mem_of_getElem? (i := 1533) (by decide +kernel)) (by decide +kernel)
theorem ac_nat : Cond.native arraycopyName ∈ gw := gw_in (List.mem_of_getElem? (i := 639) (by decide +kernel)) (by decide +kernel)
theorem ac_sta : Cond.static arraycopyName ∈ gw := gw_in (List.mem_of_getElem? (i := 638) (by decide +kernel)) (by decide +kernel)
theorem in_0 : ∀ w ∈ wsX00, w ∈ gw := by
  intro w hw
  obtain ⟨k, hk, rfl⟩ := List.mem_map.mp hw
  have hk := List.mem_range.mp hk
  match k, hk with
  | 0, _ => exact gw_in (List.mem_of_getElem? (i := 213) (by decide +kernel)) (by decide +kernel)
  | 1, _ => exact gw_in (List.mem_of_getElem? (i := 215) (by decide +kernel)) (by decide +kernel)
  | 2, _ => exact gw_in (List.mem_of_getElem? (i := 217) (by decide +kernel)) (by decide +kernel)
  | 3, _ => exact gw_in (List.mem_of_getElem? (i := 219) (by decide +kernel)) (by decide +kernel)
  | 4, _ => exact gw_in (List.mem_of_getElem? (i := 221) (by decide +kernel)) (by decide +kernel)
  | 5, _ => exact gw_in (List.mem_of_getElem? (i := 223) (by decide +kernel)) (by decide +kernel)
  | k + 6, hk => exact absurd hk (by omega)
theorem K_0 : clsOk 0 RX0 TX0 6 tyX0 := ⟨rfl, in_0, tyX0_ok, nmX0⟩
theorem in_1 : ∀ w ∈ wsX10, w ∈ gw := by
  intro w hw
  obtain ⟨k, hk, rfl⟩ := List.mem_map.mp hw
  have hk := List.mem_range.mp hk
  match k, hk with
  | 0, _ => exact gw_in (List.mem_of_getElem? (i := 91) (by decide +kernel)) (by decide +kernel)
  | 1, _ => exact gw_in (List.mem_of_getElem? (i := 93) (by decide +kernel)) (by decide +kernel)
  | 2, _ => exact gw_in (List.mem_of_getElem? (i := 95) (by decide +kernel)) (by decide +kernel)
  | 3, _ => exact gw_in (List.mem_of_getElem? (i := 97) (by decide +kernel)) (by decide +kernel)
  | 4, _ => exact gw_in (List.mem_of_getElem? (i := 99) (by decide +kernel)) (by decide +kernel)
  | 5, _ => exact gw_in (List.mem_of_getElem? (i := 101) (by decide +kernel)) (by decide +kernel)
  | 6, _ => exact gw_in (List.mem_of_getElem? (i := 103) (by decide +kernel)) (by decide +kernel)
  | k + 7, hk => exact absurd hk (by omega)
theorem K_1 : clsOk 1 RX1 TX1 7 tyX1 := ⟨rfl, in_1, tyX1_ok, nmX1⟩
theorem in_2 : ∀ w ∈ wsX20, w ∈ gw := by
  intro w hw
  obtain ⟨k, hk, rfl⟩ := List.mem_map.mp hw
  have hk := List.mem_range.mp hk
  match k, hk with
  | 0, _ => exact gw_in (List.mem_of_getElem? (i := 46) (by decide +kernel)) (by decide +kernel)
  | 1, _ => exact gw_in (List.mem_of_getElem? (i := 48) (by decide +kernel)) (by decide +kernel)
  | 2, _ => exact gw_in (List.mem_of_getElem? (i := 50) (by decide +kernel)) (by decide +kernel)
  | k + 3, hk => exact absurd hk (by omega)
theorem K_2 : clsOk 2 RX2 TX2 3 tyX2 := ⟨rfl, in_2, tyX2_ok, nmX2⟩
theorem in_3 : ∀ w ∈ wsX30, w ∈ gw := by
  intro w hw
  obtain ⟨k, hk, rfl⟩ := List.mem_map.mp hw
  have hk := List.mem_range.mp hk
  match k, hk with
  | 0, _ => exact gw_in (List.mem_of_getElem? (i := 171) (by decide +kernel)) (by decide +kernel)
  | 1, _ => exact gw_in (List.mem_of_getElem? (i := 173) (by decide +kernel)) (by decide +kernel)
  | k + 2, hk => exact absurd hk (by omega)
theorem K_3 : clsOk 3 RX3 TX3 2 tyX3 := ⟨rfl, in_3, tyX3_ok, nmX3⟩
theorem in_4 : ∀ w ∈ wsX40, w ∈ gw := by
  intro w hw
  obtain ⟨k, hk, rfl⟩ := List.mem_map.mp hw
  have hk := List.mem_range.mp hk
  match k, hk with
  | 0, _ => exact gw_in (List.mem_of_getElem? (i := 65) (by decide +kernel)) (by decide +kernel)
  | 1, _ => exact gw_in (List.mem_of_getElem? (i := 67) (by decide +kernel)) (by decide +kernel)
  | 2, _ => exact gw_in (List.mem_of_getElem? (i := 69) (by decide +kernel)) (by decide +kernel)
  | k + 3, hk => exact absurd hk (by omega)
theorem K_4 : clsOk 4 RX4 TX4 3 tyX4 := ⟨rfl, in_4, tyX4_ok, nmX4⟩
theorem in_5 : ∀ w ∈ wsX50, w ∈ gw := by
  intro w hw
  obtain ⟨k, hk, rfl⟩ := List.mem_map.mp hw
  have hk := List.mem_range.mp hk
  match k, hk with
  | 0, _ => exact gw_in (List.mem_of_getElem? (i := 146) (by decide +kernel)) (by decide +kernel)
  | 1, _ => exact gw_in (List.mem_of_getElem? (i := 148) (by decide +kernel)) (by decide +kernel)
  | 2, _ => exact gw_in (List.mem_of_getElem? (i := 150) (by decide +kernel)) (by decide +kernel)
  | 3, _ => exact gw_in (List.mem_of_getElem? (i := 152) (by decide +kernel)) (by decide +kernel)
  | 4, _ => exact gw_in (List.mem_of_getElem? (i := 154) (by decide +kernel)) (by decide +kernel)
  | 5, _ => exact gw_in (List.mem_of_getElem? (i := 156) (by decide +kernel)) (by decide +kernel)
  | 6, _ => exact gw_in (List.mem_of_getElem? (i := 158) (by decide +kernel)) (by decide +kernel)
  | k + 7, hk => exact absurd hk (by omega)
theorem K_5 : clsOk 5 RX5 TX5 7 tyX5 := ⟨rfl, in_5, tyX5_ok, nmX5⟩
theorem in_6 : ∀ w ∈ wsX60, w ∈ gw := by
  intro w hw
  obtain ⟨k, hk, rfl⟩ := List.mem_map.mp hw
  have hk := List.mem_range.mp hk
  match k, hk with
  | 0, _ => exact gw_in (List.mem_of_getElem? (i := 36) (by decide +kernel)) (by decide +kernel)
  | 1, _ => exact gw_in (List.mem_of_getElem? (i := 38) (by decide +kernel)) (by decide +kernel)
  | k + 2, hk => exact absurd hk (by omega)
theorem K_6 : clsOk 6 RX6 TX6 2 tyX6 := ⟨rfl, in_6, tyX6_ok, nmX6⟩
theorem in_7 : ∀ w ∈ wsX70, w ∈ gw := by
  intro w hw
  obtain ⟨k, hk, rfl⟩ := List.mem_map.mp hw
  have hk := List.mem_range.mp hk
  match k, hk with
  | 0, _ => exact gw_in (List.mem_of_getElem? (i := 190) (by decide +kernel)) (by decide +kernel)
  | 1, _ => exact gw_in (List.mem_of_getElem? (i := 192) (by decide +kernel)) (by decide +kernel)
  | 2, _ => exact gw_in (List.mem_of_getElem? (i := 194) (by decide +kernel)) (by decide +kernel)
  | 3, _ => exact gw_in (List.mem_of_getElem? (i := 196) (by decide +kernel)) (by decide +kernel)
  | k + 4, hk => exact absurd hk (by omega)
theorem K_7 : clsOk 7 RX7 TX7 4 tyX7 := ⟨rfl, in_7, tyX7_ok, nmX7⟩
theorem in_8 : ∀ w ∈ wsX80, w ∈ gw := by
  intro w hw
  obtain ⟨k, hk, rfl⟩ := List.mem_map.mp hw
  have hk := List.mem_range.mp hk
  match k, hk with
  | 0, _ => exact gw_in (List.mem_of_getElem? (i := 120) (by decide +kernel)) (by decide +kernel)
  | 1, _ => exact gw_in (List.mem_of_getElem? (i := 122) (by decide +kernel)) (by decide +kernel)
  | 2, _ => exact gw_in (List.mem_of_getElem? (i := 124) (by decide +kernel)) (by decide +kernel)
  | 3, _ => exact gw_in (List.mem_of_getElem? (i := 126) (by decide +kernel)) (by decide +kernel)
  | 4, _ => exact gw_in (List.mem_of_getElem? (i := 128) (by decide +kernel)) (by decide +kernel)
  | k + 5, hk => exact absurd hk (by omega)
theorem K_8 : clsOk 8 RX8 TX8 5 tyX8 := ⟨rfl, in_8, tyX8_ok, nmX8⟩
theorem in_9 : ∀ w ∈ wsX90, w ∈ gw := by
  intro w hw
  obtain ⟨k, hk, rfl⟩ := List.mem_map.mp hw
  have hk := List.mem_range.mp hk
  match k, hk with
  | 0, _ => exact gw_in (List.mem_of_getElem? (i := 244) (by decide +kernel)) (by decide +kernel)
  | 1, _ => exact gw_in (List.mem_of_getElem? (i := 246) (by decide +kernel)) (by decide +kernel)
  | 2, _ => exact gw_in (List.mem_of_getElem? (i := 248) (by decide +kernel)) (by decide +kernel)
  | 3, _ => exact gw_in (List.mem_of_getElem? (i := 250) (by decide +kernel)) (by decide +kernel)
  | 4, _ => exact gw_in (List.mem_of_getElem? (i := 252) (by decide +kernel)) (by decide +kernel)
  | 5, _ => exact gw_in (List.mem_of_getElem? (i := 254) (by decide +kernel)) (by decide +kernel)
  | 6, _ => exact gw_in (List.mem_of_getElem? (i := 256) (by decide +kernel)) (by decide +kernel)
  | 7, _ => exact gw_in (List.mem_of_getElem? (i := 258) (by decide +kernel)) (by decide +kernel)
  | 8, _ => exact gw_in (List.mem_of_getElem? (i := 260) (by decide +kernel)) (by decide +kernel)
  | 9, _ => exact gw_in (List.mem_of_getElem? (i := 262) (by decide +kernel)) (by decide +kernel)
  | 10, _ => exact gw_in (List.mem_of_getElem? (i := 264) (by decide +kernel)) (by decide +kernel)
  | 11, _ => exact gw_in (List.mem_of_getElem? (i := 266) (by decide +kernel)) (by decide +kernel)
  | 12, _ => exact gw_in (List.mem_of_getElem? (i := 268) (by decide +kernel)) (by decide +kernel)
  | 13, _ => exact gw_in (List.mem_of_getElem? (i := 270) (by decide +kernel)) (by decide +kernel)
  | 14, _ => exact gw_in (List.mem_of_getElem? (i := 272) (by decide +kernel)) (by decide +kernel)
  | 15, _ => exact gw_in (List.mem_of_getElem? (i := 274) (by decide +kernel)) (by decide +kernel)
  | 16, _ => exact gw_in (List.mem_of_getElem? (i := 276) (by decide +kernel)) (by decide +kernel)
  | 17, _ => exact gw_in (List.mem_of_getElem? (i := 278) (by decide +kernel)) (by decide +kernel)
  | k + 18, hk => exact absurd hk (by omega)
theorem K_9 : clsOk 9 RX9 TX9 18 tyX9 := ⟨rfl, in_9, tyX9_ok, nmX9⟩
theorem in_10 : ∀ w ∈ wsX100, w ∈ gw := by
  intro w hw
  obtain ⟨k, hk, rfl⟩ := List.mem_map.mp hw
  have hk := List.mem_range.mp hk
  match k, hk with
  | 0, _ => exact gw_in (List.mem_of_getElem? (i := 1070) (by decide +kernel)) (by decide +kernel)
  | 1, _ => exact gw_in (List.mem_of_getElem? (i := 1072) (by decide +kernel)) (by decide +kernel)
  | 2, _ => exact gw_in (List.mem_of_getElem? (i := 1074) (by decide +kernel)) (by decide +kernel)
  | 3, _ => exact gw_in (List.mem_of_getElem? (i := 1076) (by decide +kernel)) (by decide +kernel)
  | 4, _ => exact gw_in (List.mem_of_getElem? (i := 1078) (by decide +kernel)) (by decide +kernel)
  | 5, _ => exact gw_in (List.mem_of_getElem? (i := 1080) (by decide +kernel)) (by decide +kernel)
  | 6, _ => exact gw_in (List.mem_of_getElem? (i := 1082) (by decide +kernel)) (by decide +kernel)
  | 7, _ => exact gw_in (List.mem_of_getElem? (i := 1084) (by decide +kernel)) (by decide +kernel)
  | 8, _ => exact gw_in (List.mem_of_getElem? (i := 1086) (by decide +kernel)) (by decide +kernel)
  | 9, _ => exact gw_in (List.mem_of_getElem? (i := 1088) (by decide +kernel)) (by decide +kernel)
  | 10, _ => exact gw_in (List.mem_of_getElem? (i := 1090) (by decide +kernel)) (by decide +kernel)
  | 11, _ => exact gw_in (List.mem_of_getElem? (i := 1092) (by decide +kernel)) (by decide +kernel)
  | 12, _ => exact gw_in (List.mem_of_getElem? (i := 1094) (by decide +kernel)) (by decide +kernel)
  | 13, _ => exact gw_in (List.mem_of_getElem? (i := 1096) (by decide +kernel)) (by decide +kernel)
  | 14, _ => exact gw_in (List.mem_of_getElem? (i := 1098) (by decide +kernel)) (by decide +kernel)
  | 15, _ => exact gw_in (List.mem_of_getElem? (i := 1100) (by decide +kernel)) (by decide +kernel)
  | 16, _ => exact gw_in (List.mem_of_getElem? (i := 1102) (by decide +kernel)) (by decide +kernel)
  | 17, _ => exact gw_in (List.mem_of_getElem? (i := 1104) (by decide +kernel)) (by decide +kernel)
  | 18, _ => exact gw_in (List.mem_of_getElem? (i := 1106) (by decide +kernel)) (by decide +kernel)
  | 19, _ => exact gw_in (List.mem_of_getElem? (i := 1108) (by decide +kernel)) (by decide +kernel)
  | 20, _ => exact gw_in (List.mem_of_getElem? (i := 1110) (by decide +kernel)) (by decide +kernel)
  | 21, _ => exact gw_in (List.mem_of_getElem? (i := 1112) (by decide +kernel)) (by decide +kernel)
  | 22, _ => exact gw_in (List.mem_of_getElem? (i := 1114) (by decide +kernel)) (by decide +kernel)
  | 23, _ => exact gw_in (List.mem_of_getElem? (i := 1116) (by decide +kernel)) (by decide +kernel)
  | 24, _ => exact gw_in (List.mem_of_getElem? (i := 1118) (by decide +kernel)) (by decide +kernel)
  | 25, _ => exact gw_in (List.mem_of_getElem? (i := 1120) (by decide +kernel)) (by decide +kernel)
  | 26, _ => exact gw_in (List.mem_of_getElem? (i := 1122) (by decide +kernel)) (by decide +kernel)
  | 27, _ => exact gw_in (List.mem_of_getElem? (i := 1124) (by decide +kernel)) (by decide +kernel)
  | 28, _ => exact gw_in (List.mem_of_getElem? (i := 1126) (by decide +kernel)) (by decide +kernel)
  | 29, _ => exact gw_in (List.mem_of_getElem? (i := 1128) (by decide +kernel)) (by decide +kernel)
  | 30, _ => exact gw_in (List.mem_of_getElem? (i := 1130) (by decide +kernel)) (by decide +kernel)
  | 31, _ => exact gw_in (List.mem_of_getElem? (i := 1132) (by decide +kernel)) (by decide +kernel)
  | 32, _ => exact gw_in (List.mem_of_getElem? (i := 1134) (by decide +kernel)) (by decide +kernel)
  | 33, _ => exact gw_in (List.mem_of_getElem? (i := 1136) (by decide +kernel)) (by decide +kernel)
  | 34, _ => exact gw_in (List.mem_of_getElem? (i := 1138) (by decide +kernel)) (by decide +kernel)
  | 35, _ => exact gw_in (List.mem_of_getElem? (i := 1140) (by decide +kernel)) (by decide +kernel)
  | 36, _ => exact gw_in (List.mem_of_getElem? (i := 1142) (by decide +kernel)) (by decide +kernel)
  | 37, _ => exact gw_in (List.mem_of_getElem? (i := 1144) (by decide +kernel)) (by decide +kernel)
  | k + 38, hk => exact absurd hk (by omega)
theorem K_10 : clsOk 10 RX10 TX10 38 tyX10 := ⟨rfl, in_10, tyX10_ok, nmX10⟩
