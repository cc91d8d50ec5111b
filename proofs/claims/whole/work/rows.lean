section
/-! the tables' words: PART A of the skeleton -/
/-- a private method of a class that the tables say can be made, by its rows of tables_1 -/
def lw_okq (q : MethodName × Nat) : Prop := (q.1.cls ≠ "java/lang/invoke/MethodHandle" ∧ q.1.cls ≠ "java/lang/invoke/VarHandle") ∧ Cond.instantiable q.1.cls q.2 ∈ tables_1 ∧ Cond.privateMethod q.1 ∈ tables_1 ∧ Cond.instanceMethod q.1 ∈ tables_1
theorem lw_p0 : lw_okq (⟨"AspectWalk", "forgetFrom", "(I)V"⟩, 4) := ⟨⟨by decide +kernel, by decide +kernel⟩, List.mem_of_getElem? (i := 15) (by decide +kernel), List.mem_of_getElem? (i := 176) (by decide +kernel), List.mem_of_getElem? (i := 177) (by decide +kernel)⟩
theorem lw_p1 : lw_okq (⟨"AspectWalk", "forgetAllOf", "(I)V"⟩, 4) := ⟨⟨by decide +kernel, by decide +kernel⟩, List.mem_of_getElem? (i := 15) (by decide +kernel), List.mem_of_getElem? (i := 255) (by decide +kernel), List.mem_of_getElem? (i := 256) (by decide +kernel)⟩
theorem lw_p2 : lw_okq (⟨"AspectWalk", "isAsked", "(III)Z"⟩, 4) := ⟨⟨by decide +kernel, by decide +kernel⟩, List.mem_of_getElem? (i := 15) (by decide +kernel), List.mem_of_getElem? (i := 263) (by decide +kernel), List.mem_of_getElem? (i := 264) (by decide +kernel)⟩
theorem lw_p3 : lw_okq (⟨"AspectWalk", "doing", "(IIII)I"⟩, 4) := ⟨⟨by decide +kernel, by decide +kernel⟩, List.mem_of_getElem? (i := 15) (by decide +kernel), List.mem_of_getElem? (i := 267) (by decide +kernel), List.mem_of_getElem? (i := 268) (by decide +kernel)⟩
theorem lw_p4 : lw_okq (⟨"AspectWalk", "doNeeds", "(IIII)I"⟩, 4) := ⟨⟨by decide +kernel, by decide +kernel⟩, List.mem_of_getElem? (i := 15) (by decide +kernel), List.mem_of_getElem? (i := 275) (by decide +kernel), List.mem_of_getElem? (i := 276) (by decide +kernel)⟩
theorem lw_p5 : lw_okq (⟨"AspectWalk", "lacksProvider", "(III)Z"⟩, 4) := ⟨⟨by decide +kernel, by decide +kernel⟩, List.mem_of_getElem? (i := 15) (by decide +kernel), List.mem_of_getElem? (i := 280) (by decide +kernel), List.mem_of_getElem? (i := 281) (by decide +kernel)⟩
theorem lw_p6 : lw_okq (⟨"AspectWalk", "doBelow", "(IIII)I"⟩, 4) := ⟨⟨by decide +kernel, by decide +kernel⟩, List.mem_of_getElem? (i := 15) (by decide +kernel), List.mem_of_getElem? (i := 300) (by decide +kernel), List.mem_of_getElem? (i := 301) (by decide +kernel)⟩
theorem lw_p7 : lw_okq (⟨"AspectWalk", "lengthAlong", "(III)I"⟩, 4) := ⟨⟨by decide +kernel, by decide +kernel⟩, List.mem_of_getElem? (i := 15) (by decide +kernel), List.mem_of_getElem? (i := 304) (by decide +kernel), List.mem_of_getElem? (i := 305) (by decide +kernel)⟩
theorem lw_p8 : lw_okq (⟨"AspectWalk", "makeOutput", "(III)Z"⟩, 4) := ⟨⟨by decide +kernel, by decide +kernel⟩, List.mem_of_getElem? (i := 15) (by decide +kernel), List.mem_of_getElem? (i := 320) (by decide +kernel), List.mem_of_getElem? (i := 321) (by decide +kernel)⟩
theorem lw_p9 : lw_okq (⟨"AspectWalk", "joined", "(III)J"⟩, 4) := ⟨⟨by decide +kernel, by decide +kernel⟩, List.mem_of_getElem? (i := 15) (by decide +kernel), List.mem_of_getElem? (i := 333) (by decide +kernel), List.mem_of_getElem? (i := 334) (by decide +kernel)⟩
theorem lw_p10 : lw_okq (⟨"AspectWalk", "joinBelow", "(JIII)J"⟩, 4) := ⟨⟨by decide +kernel, by decide +kernel⟩, List.mem_of_getElem? (i := 15) (by decide +kernel), List.mem_of_getElem? (i := 345) (by decide +kernel), List.mem_of_getElem? (i := 346) (by decide +kernel)⟩
theorem lw_p11 : lw_okq (⟨"AspectWalk", "joinPart", "(IJIII)J"⟩, 4) := ⟨⟨by decide +kernel, by decide +kernel⟩, List.mem_of_getElem? (i := 15) (by decide +kernel), List.mem_of_getElem? (i := 349) (by decide +kernel), List.mem_of_getElem? (i := 350) (by decide +kernel)⟩
theorem lw_p12 : lw_okq (⟨"AspectWalk", "joinNeeds", "(JIII)J"⟩, 4) := ⟨⟨by decide +kernel, by decide +kernel⟩, List.mem_of_getElem? (i := 15) (by decide +kernel), List.mem_of_getElem? (i := 361) (by decide +kernel), List.mem_of_getElem? (i := 362) (by decide +kernel)⟩
theorem lw_p13 : lw_okq (⟨"java/lang/Throwable", "fillInStackTrace", "(I)Ljava/lang/Throwable;"⟩, 6) := ⟨⟨by decide +kernel, by decide +kernel⟩, List.mem_of_getElem? (i := 443) (by decide +kernel), List.mem_of_getElem? (i := 441) (by decide +kernel), List.mem_of_getElem? (i := 442) (by decide +kernel)⟩
theorem lw_p14 : lw_okq (⟨"AspectWalkModel", "isTarget", "(I)Z"⟩, 26) := ⟨⟨by decide +kernel, by decide +kernel⟩, List.mem_of_getElem? (i := 489) (by decide +kernel), List.mem_of_getElem? (i := 587) (by decide +kernel), List.mem_of_getElem? (i := 588) (by decide +kernel)⟩
theorem lw_p15 : lw_okq (⟨"AspectWalkModel", "isOwn", "(I)Z"⟩, 26) := ⟨⟨by decide +kernel, by decide +kernel⟩, List.mem_of_getElem? (i := 489) (by decide +kernel), List.mem_of_getElem? (i := 599) (by decide +kernel), List.mem_of_getElem? (i := 600) (by decide +kernel)⟩
def lw_privs_1 : List (MethodName × Nat) := [(⟨"AspectWalk", "forgetFrom", "(I)V"⟩, 4), (⟨"AspectWalk", "forgetAllOf", "(I)V"⟩, 4), (⟨"AspectWalk", "isAsked", "(III)Z"⟩, 4), (⟨"AspectWalk", "doing", "(IIII)I"⟩, 4), (⟨"AspectWalk", "doNeeds", "(IIII)I"⟩, 4), (⟨"AspectWalk", "lacksProvider", "(III)Z"⟩, 4), (⟨"AspectWalk", "doBelow", "(IIII)I"⟩, 4), (⟨"AspectWalk", "lengthAlong", "(III)I"⟩, 4), (⟨"AspectWalk", "makeOutput", "(III)Z"⟩, 4), (⟨"AspectWalk", "joined", "(III)J"⟩, 4), (⟨"AspectWalk", "joinBelow", "(JIII)J"⟩, 4), (⟨"AspectWalk", "joinPart", "(IJIII)J"⟩, 4), (⟨"AspectWalk", "joinNeeds", "(JIII)J"⟩, 4), (⟨"java/lang/Throwable", "fillInStackTrace", "(I)Ljava/lang/Throwable;"⟩, 6), (⟨"AspectWalkModel", "isTarget", "(I)Z"⟩, 26), (⟨"AspectWalkModel", "isOwn", "(I)Z"⟩, 26)]
theorem lw_r1 : ∀ q ∈ lw_privs_1, lw_okq q := List.forall_mem_cons.mpr ⟨lw_p0, List.forall_mem_cons.mpr ⟨lw_p1, List.forall_mem_cons.mpr ⟨lw_p2, List.forall_mem_cons.mpr ⟨lw_p3, List.forall_mem_cons.mpr ⟨lw_p4, List.forall_mem_cons.mpr ⟨lw_p5, List.forall_mem_cons.mpr ⟨lw_p6, List.forall_mem_cons.mpr ⟨lw_p7, List.forall_mem_cons.mpr ⟨lw_p8, List.forall_mem_cons.mpr ⟨lw_p9, List.forall_mem_cons.mpr ⟨lw_p10, List.forall_mem_cons.mpr ⟨lw_p11, List.forall_mem_cons.mpr ⟨lw_p12, List.forall_mem_cons.mpr ⟨lw_p13, List.forall_mem_cons.mpr ⟨lw_p14, List.forall_mem_cons.mpr ⟨lw_p15, fun _ h => absurd h List.not_mem_nil⟩⟩⟩⟩⟩⟩⟩⟩⟩⟩⟩⟩⟩⟩⟩⟩
theorem lw_p16 : lw_okq (⟨"AspectWalkModel", "forgetFrom", "(I)V"⟩, 26) := ⟨⟨by decide +kernel, by decide +kernel⟩, List.mem_of_getElem? (i := 489) (by decide +kernel), List.mem_of_getElem? (i := 603) (by decide +kernel), List.mem_of_getElem? (i := 604) (by decide +kernel)⟩
theorem lw_p17 : lw_okq (⟨"AspectWalkModel", "hasTouched", "(I)Z"⟩, 26) := ⟨⟨by decide +kernel, by decide +kernel⟩, List.mem_of_getElem? (i := 489) (by decide +kernel), List.mem_of_getElem? (i := 607) (by decide +kernel), List.mem_of_getElem? (i := 608) (by decide +kernel)⟩
theorem lw_p18 : lw_okq (⟨"AspectWalkModel", "forgetTarget", "(I)V"⟩, 26) := ⟨⟨by decide +kernel, by decide +kernel⟩, List.mem_of_getElem? (i := 489) (by decide +kernel), List.mem_of_getElem? (i := 611) (by decide +kernel), List.mem_of_getElem? (i := 612) (by decide +kernel)⟩
theorem lw_p19 : lw_okq (⟨"AspectWalkModel", "isAspect", "(I)Z"⟩, 26) := ⟨⟨by decide +kernel, by decide +kernel⟩, List.mem_of_getElem? (i := 489) (by decide +kernel), List.mem_of_getElem? (i := 627) (by decide +kernel), List.mem_of_getElem? (i := 628) (by decide +kernel)⟩
theorem lw_p20 : lw_okq (⟨"AspectWalkModel", "hasNeed", "(II)Z"⟩, 26) := ⟨⟨by decide +kernel, by decide +kernel⟩, List.mem_of_getElem? (i := 489) (by decide +kernel), List.mem_of_getElem? (i := 631) (by decide +kernel), List.mem_of_getElem? (i := 632) (by decide +kernel)⟩
theorem lw_p21 : lw_okq (⟨"AspectWalkModel", "neederBits", "(I)I"⟩, 26) := ⟨⟨by decide +kernel, by decide +kernel⟩, List.mem_of_getElem? (i := 489) (by decide +kernel), List.mem_of_getElem? (i := 635) (by decide +kernel), List.mem_of_getElem? (i := 636) (by decide +kernel)⟩
theorem lw_p22 : lw_okq (⟨"AspectWalkModel", "forgetAspect", "(I)V"⟩, 26) := ⟨⟨by decide +kernel, by decide +kernel⟩, List.mem_of_getElem? (i := 489) (by decide +kernel), List.mem_of_getElem? (i := 639) (by decide +kernel), List.mem_of_getElem? (i := 640) (by decide +kernel)⟩
theorem lw_p23 : lw_okq (⟨"AspectWalkModel", "push", "(II)V"⟩, 26) := ⟨⟨by decide +kernel, by decide +kernel⟩, List.mem_of_getElem? (i := 489) (by decide +kernel), List.mem_of_getElem? (i := 653) (by decide +kernel), List.mem_of_getElem? (i := 654) (by decide +kernel)⟩
theorem lw_p24 : lw_okq (⟨"AspectWalkModel", "goOn", "()V"⟩, 26) := ⟨⟨by decide +kernel, by decide +kernel⟩, List.mem_of_getElem? (i := 489) (by decide +kernel), List.mem_of_getElem? (i := 657) (by decide +kernel), List.mem_of_getElem? (i := 658) (by decide +kernel)⟩
theorem lw_p25 : lw_okq (⟨"AspectWalkModel", "waitsForNeed", "(II)Z"⟩, 26) := ⟨⟨by decide +kernel, by decide +kernel⟩, List.mem_of_getElem? (i := 489) (by decide +kernel), List.mem_of_getElem? (i := 661) (by decide +kernel), List.mem_of_getElem? (i := 662) (by decide +kernel)⟩
theorem lw_p26 : lw_okq (⟨"AspectWalkModel", "hasAllWanted", "(II)Z"⟩, 26) := ⟨⟨by decide +kernel, by decide +kernel⟩, List.mem_of_getElem? (i := 489) (by decide +kernel), List.mem_of_getElem? (i := 665) (by decide +kernel), List.mem_of_getElem? (i := 666) (by decide +kernel)⟩
theorem lw_p27 : lw_okq (⟨"AspectWalkModel", "waitsForTarget", "(II)Z"⟩, 26) := ⟨⟨by decide +kernel, by decide +kernel⟩, List.mem_of_getElem? (i := 489) (by decide +kernel), List.mem_of_getElem? (i := 669) (by decide +kernel), List.mem_of_getElem? (i := 670) (by decide +kernel)⟩
theorem lw_p28 : lw_okq (⟨"AspectWalkModel", "makes", "(II)Z"⟩, 26) := ⟨⟨by decide +kernel, by decide +kernel⟩, List.mem_of_getElem? (i := 489) (by decide +kernel), List.mem_of_getElem? (i := 673) (by decide +kernel), List.mem_of_getElem? (i := 674) (by decide +kernel)⟩
theorem lw_p29 : lw_okq (⟨"AspectWalkModel", "resultOf", "(II)J"⟩, 26) := ⟨⟨by decide +kernel, by decide +kernel⟩, List.mem_of_getElem? (i := 489) (by decide +kernel), List.mem_of_getElem? (i := 677) (by decide +kernel), List.mem_of_getElem? (i := 678) (by decide +kernel)⟩
def lw_privs_2 : List (MethodName × Nat) := [(⟨"AspectWalkModel", "forgetFrom", "(I)V"⟩, 26), (⟨"AspectWalkModel", "hasTouched", "(I)Z"⟩, 26), (⟨"AspectWalkModel", "forgetTarget", "(I)V"⟩, 26), (⟨"AspectWalkModel", "isAspect", "(I)Z"⟩, 26), (⟨"AspectWalkModel", "hasNeed", "(II)Z"⟩, 26), (⟨"AspectWalkModel", "neederBits", "(I)I"⟩, 26), (⟨"AspectWalkModel", "forgetAspect", "(I)V"⟩, 26), (⟨"AspectWalkModel", "push", "(II)V"⟩, 26), (⟨"AspectWalkModel", "goOn", "()V"⟩, 26), (⟨"AspectWalkModel", "waitsForNeed", "(II)Z"⟩, 26), (⟨"AspectWalkModel", "hasAllWanted", "(II)Z"⟩, 26), (⟨"AspectWalkModel", "waitsForTarget", "(II)Z"⟩, 26), (⟨"AspectWalkModel", "makes", "(II)Z"⟩, 26), (⟨"AspectWalkModel", "resultOf", "(II)J"⟩, 26)]
theorem lw_r2 : ∀ q ∈ lw_privs_2, lw_okq q := List.forall_mem_cons.mpr ⟨lw_p16, List.forall_mem_cons.mpr ⟨lw_p17, List.forall_mem_cons.mpr ⟨lw_p18, List.forall_mem_cons.mpr ⟨lw_p19, List.forall_mem_cons.mpr ⟨lw_p20, List.forall_mem_cons.mpr ⟨lw_p21, List.forall_mem_cons.mpr ⟨lw_p22, List.forall_mem_cons.mpr ⟨lw_p23, List.forall_mem_cons.mpr ⟨lw_p24, List.forall_mem_cons.mpr ⟨lw_p25, List.forall_mem_cons.mpr ⟨lw_p26, List.forall_mem_cons.mpr ⟨lw_p27, List.forall_mem_cons.mpr ⟨lw_p28, List.forall_mem_cons.mpr ⟨lw_p29, fun _ h => absurd h List.not_mem_nil⟩⟩⟩⟩⟩⟩⟩⟩⟩⟩⟩⟩⟩⟩
def lw_privs : List (MethodName × Nat) := lw_privs_1 ++ (lw_privs_2)
def lw_tbl : List Cond := k2_sels lw_privs ++ tables_1
theorem lw_privs_ok : ∀ q ∈ lw_privs, lw_okq q := by
  show ∀ q ∈ lw_privs_1 ++ (lw_privs_2), lw_okq q
  exact List.forall_mem_append.mpr ⟨lw_r1, lw_r2⟩
end
section
/-! names, fields, words (by program: wip/gen/names.py) -/
def zR_T : String := "AspectWalk$Targets"
def zR_A : String := "AspectWalk$Aspects"
def zR_M : String := "AspectWalk$Memory"
def zR_W : String := "AspectWalk"
def zR_R : String := "AspectWalkModel"
def zR_L : String := "AspectWalkLaw"
def zR_Ji : String := "java/lang/Integer"
def zR_Jm : String := "java/lang/Math"
def zR_Ja : String := "java/util/Arrays"
def zF_T : u_T := fun k => match k with
  | 0 => ("AspectWalk$Targets", "values", "[J", true)
  | 1 => ("AspectWalk$Targets", "providers", "[I", true)
  | 2 => ("AspectWalk$Targets", "ends", "[I", true)
  | 3 => ("AspectWalk$Targets", "rows", "[I", true)
  | 4 => ("AspectWalk$Targets", "rowLengths", "[I", true)
  | 5 => ("AspectWalk$Targets", "reached", "[I", true)
  | _ => ("AspectWalk$Targets", "opened", "I", false)
def zt_T : Nat → FieldType := fun k => match k with
  | 0 => .array .long
  | 1 => .array .int
  | 2 => .array .int
  | 3 => .array .int
  | 4 => .array .int
  | 5 => .array .int
  | _ => .int
theorem znm_T : ∀ a, a < 7 → ∀ b, b < 7 → a ≠ b → (zF_T a).2.1 ≠ (zF_T b).2.1 := by decide +kernel
theorem zty_T : ∀ k, k < 7 → parseFieldDescriptor (zF_T k).2.2.1 = some (zt_T k) := by decide +kernel
def zF_A : u_T := fun k => match k with
  | 0 => ("AspectWalk$Aspects", "kinds", "[I", true)
  | 1 => ("AspectWalk$Aspects", "alongs", "[I", true)
  | 2 => ("AspectWalk$Aspects", "wants", "[I", true)
  | 3 => ("AspectWalk$Aspects", "gives", "[I", true)
  | 4 => ("AspectWalk$Aspects", "names", "[I", true)
  | 5 => ("AspectWalk$Aspects", "needs", "[I", true)
  | 6 => ("AspectWalk$Aspects", "needCounts", "[I", true)
  | 7 => ("AspectWalk$Aspects", "reached", "[I", true)
  | _ => ("AspectWalk$Aspects", "opened", "I", false)
def zt_A : Nat → FieldType := fun k => match k with
  | 0 => .array .int
  | 1 => .array .int
  | 2 => .array .int
  | 3 => .array .int
  | 4 => .array .int
  | 5 => .array .int
  | 6 => .array .int
  | 7 => .array .int
  | _ => .int
theorem znm_A : ∀ a, a < 9 → ∀ b, b < 9 → a ≠ b → (zF_A a).2.1 ≠ (zF_A b).2.1 := by decide +kernel
theorem zty_A : ∀ k, k < 9 → parseFieldDescriptor (zF_A k).2.2.1 = some (zt_A k) := by decide +kernel
def zF_M : u_T := fun k => match k with
  | 0 => ("AspectWalk$Memory", "doneSettings", "[I", true)
  | 1 => ("AspectWalk$Memory", "passedSettings", "[I", true)
  | 2 => ("AspectWalk$Memory", "doneTimes", "[I", true)
  | 3 => ("AspectWalk$Memory", "results", "[J", true)
  | 4 => ("AspectWalk$Memory", "makers", "[I", true)
  | 5 => ("AspectWalk$Memory", "makerSettings", "[I", true)
  | _ => ("AspectWalk$Memory", "nowDone", "I", false)
def zt_M : Nat → FieldType := fun k => match k with
  | 0 => .array .int
  | 1 => .array .int
  | 2 => .array .int
  | 3 => .array .long
  | 4 => .array .int
  | 5 => .array .int
  | _ => .int
theorem znm_M : ∀ a, a < 7 → ∀ b, b < 7 → a ≠ b → (zF_M a).2.1 ≠ (zF_M b).2.1 := by decide +kernel
theorem zty_M : ∀ k, k < 7 → parseFieldDescriptor (zF_M k).2.2.1 = some (zt_M k) := by decide +kernel
def zF_W : u_T := fun k => match k with
  | 0 => ("AspectWalk", "targets", "LAspectWalk$Targets;", true)
  | 1 => ("AspectWalk", "aspects", "LAspectWalk$Aspects;", true)
  | 2 => ("AspectWalk", "memory", "LAspectWalk$Memory;", true)
  | _ => ("AspectWalk", "latestClash", "[I", true)
def zt_W : Nat → FieldType := fun k => match k with
  | 0 => .object "AspectWalk$Targets"
  | 1 => .object "AspectWalk$Aspects"
  | 2 => .object "AspectWalk$Memory"
  | _ => .array .int
theorem znm_W : ∀ a, a < 4 → ∀ b, b < 4 → a ≠ b → (zF_W a).2.1 ≠ (zF_W b).2.1 := by decide +kernel
theorem zty_W : ∀ k, k < 4 → parseFieldDescriptor (zF_W k).2.2.1 = some (zt_W k) := by decide +kernel
def zF_R : u_T := fun k => match k with
  | 0 => ("AspectWalkModel", "thrown", "I", false)
  | 1 => ("AspectWalkModel", "targets", "I", false)
  | 2 => ("AspectWalkModel", "standsFor", "[I", true)
  | 3 => ("AspectWalkModel", "value", "[J", true)
  | 4 => ("AspectWalkModel", "providers", "[I", true)
  | 5 => ("AspectWalkModel", "rowSize", "[I", true)
  | 6 => ("AspectWalkModel", "row", "[I", true)
  | 7 => ("AspectWalkModel", "aspects", "I", false)
  | 8 => ("AspectWalkModel", "kind", "[I", true)
  | 9 => ("AspectWalkModel", "along", "[I", true)
  | 10 => ("AspectWalkModel", "wants", "[I", true)
  | 11 => ("AspectWalkModel", "gives", "[I", true)
  | 12 => ("AspectWalkModel", "nameOf", "[I", true)
  | 13 => ("AspectWalkModel", "needMany", "[I", true)
  | 14 => ("AspectWalkModel", "needs", "[I", true)
  | 15 => ("AspectWalkModel", "known", "[I", true)
  | 16 => ("AspectWalkModel", "results", "[J", true)
  | 17 => ("AspectWalkModel", "times", "[I", true)
  | 18 => ("AspectWalkModel", "madeBy", "[I", true)
  | 19 => ("AspectWalkModel", "clashTold", "[I", true)
  | 20 => ("AspectWalkModel", "heap", "I", false)
  | 21 => ("AspectWalkModel", "heapTarget", "[I", true)
  | 22 => ("AspectWalkModel", "heapAspect", "[I", true)
  | 23 => ("AspectWalkModel", "setting", "I", false)
  | 24 => ("AspectWalkModel", "clashes", "Z", false)
  | _ => ("AspectWalkModel", "touched", "[Z", true)
def zt_R : Nat → FieldType := fun k => match k with
  | 0 => .int
  | 1 => .int
  | 2 => .array .int
  | 3 => .array .long
  | 4 => .array .int
  | 5 => .array .int
  | 6 => .array .int
  | 7 => .int
  | 8 => .array .int
  | 9 => .array .int
  | 10 => .array .int
  | 11 => .array .int
  | 12 => .array .int
  | 13 => .array .int
  | 14 => .array .int
  | 15 => .array .int
  | 16 => .array .long
  | 17 => .array .int
  | 18 => .array .int
  | 19 => .array .int
  | 20 => .int
  | 21 => .array .int
  | 22 => .array .int
  | 23 => .int
  | 24 => .boolean
  | _ => .array .boolean
theorem znm_R : ∀ a, a < 26 → ∀ b, b < 26 → a ≠ b → (zF_R a).2.1 ≠ (zF_R b).2.1 := by decide +kernel
theorem zty_R : ∀ k, k < 26 → parseFieldDescriptor (zF_R k).2.2.1 = some (zt_R k) := by decide +kernel
abbrev zb_W_init : ByteArray := prog_1_method_1_code
def zy_W_init : MethodName := ⟨zR_W, "<init>", "()V"⟩
abbrev zb_T_init : ByteArray := prog_4_method_1_code
def zy_T_init : MethodName := ⟨zR_T, "<init>", "()V"⟩
abbrev zb_A_init : ByteArray := prog_2_method_1_code
def zy_A_init : MethodName := ⟨zR_A, "<init>", "()V"⟩
abbrev zb_M_init : ByteArray := prog_3_method_1_code
def zy_M_init : MethodName := ⟨zR_M, "<init>", "()V"⟩
abbrev zb_Ja_fill : ByteArray := prog_15_method_103_code
def zy_Ja_fill : MethodName := ⟨zR_Ja, "fill", "([II)V"⟩
abbrev zb_W_target : ByteArray := prog_1_method_2_code
def zy_W_target : MethodName := ⟨zR_W, "target", "(JI)I"⟩
abbrev zb_T_open : ByteArray := prog_4_method_4_code
def zy_T_open : MethodName := ⟨zR_T, "open", "(JI)I"⟩
abbrev zb_W_alias : ByteArray := prog_1_method_3_code
def zy_W_alias : MethodName := ⟨zR_W, "alias", "(I)I"⟩
abbrev zb_T_has : ByteArray := prog_4_method_3_code
def zy_T_has : MethodName := ⟨zR_T, "has", "(I)Z"⟩
abbrev zb_T_openAlias : ByteArray := prog_4_method_5_code
def zy_T_openAlias : MethodName := ⟨zR_T, "openAlias", "(I)I"⟩
abbrev zb_W_stands : ByteArray := prog_1_method_4_code
def zy_W_stands : MethodName := ⟨zR_W, "stands", "(I)I"⟩
abbrev zb_T_end : ByteArray := prog_4_method_6_code
def zy_T_end : MethodName := ⟨zR_T, "end", "(I)I"⟩
abbrev zb_W_add : ByteArray := prog_1_method_5_code
def zy_W_add : MethodName := ⟨zR_W, "add", "(III)Z"⟩
abbrev zb_T_isAlias : ByteArray := prog_4_method_7_code
def zy_T_isAlias : MethodName := ⟨zR_T, "isAlias", "(I)Z"⟩
abbrev zb_T_append : ByteArray := prog_4_method_9_code
def zy_T_append : MethodName := ⟨zR_T, "append", "(III)Z"⟩
abbrev zb_T_leadsTo : ByteArray := prog_4_method_10_code
def zy_T_leadsTo : MethodName := ⟨zR_T, "leadsTo", "(II)Z"⟩
abbrev zb_W_forgetFrom : ByteArray := prog_1_method_27_code
def zy_W_forgetFrom : MethodName := ⟨zR_W, "forgetFrom", "(I)V"⟩
abbrev zb_T_count : ByteArray := prog_4_method_2_code
def zy_T_count : MethodName := ⟨zR_T, "count", "()I"⟩
abbrev zb_A_count : ByteArray := prog_2_method_2_code
def zy_A_count : MethodName := ⟨zR_A, "count", "()I"⟩
abbrev zb_A_nameOf : ByteArray := prog_2_method_14_code
def zy_A_nameOf : MethodName := ⟨zR_A, "nameOf", "(I)I"⟩
abbrev zb_M_forget : ByteArray := prog_3_method_6_code
def zy_M_forget : MethodName := ⟨zR_M, "forget", "(III)V"⟩
abbrev zb_M_pair : ByteArray := prog_3_method_2_code
def zy_M_pair : MethodName := ⟨zR_M, "pair", "(II)I"⟩
abbrev zb_Ji_bitCount : ByteArray := prog_10_method_49_code
def zy_Ji_bitCount : MethodName := ⟨zR_Ji, "bitCount", "(I)I"⟩
abbrev zb_M_makerOf : ByteArray := prog_3_method_10_code
def zy_M_makerOf : MethodName := ⟨zR_M, "makerOf", "(II)I"⟩
abbrev zb_W_change : ByteArray := prog_1_method_6_code
def zy_W_change : MethodName := ⟨zR_W, "change", "(IJI)Z"⟩
abbrev zb_T_assign : ByteArray := prog_4_method_8_code
def zy_T_assign : MethodName := ⟨zR_T, "assign", "(IJI)Z"⟩
abbrev zb_W_aspect : ByteArray := prog_1_method_7_code
def zy_W_aspect : MethodName := ⟨zR_W, "aspect", "(IIIII)I"⟩
abbrev zb_A_open : ByteArray := prog_2_method_4_code
def zy_A_open : MethodName := ⟨zR_A, "open", "(IIIII)I"⟩
abbrev zb_W_need : ByteArray := prog_1_method_8_code
def zy_W_need : MethodName := ⟨zR_W, "need", "(II)I"⟩
abbrev zb_A_has : ByteArray := prog_2_method_3_code
def zy_A_has : MethodName := ⟨zR_A, "has", "(I)Z"⟩
abbrev zb_A_needsDirectly : ByteArray := prog_2_method_5_code
def zy_A_needsDirectly : MethodName := ⟨zR_A, "needsDirectly", "(II)Z"⟩
abbrev zb_A_needAt : ByteArray := prog_2_method_9_code
def zy_A_needAt : MethodName := ⟨zR_A, "needAt", "(II)I"⟩
abbrev zb_A_needCount : ByteArray := prog_2_method_8_code
def zy_A_needCount : MethodName := ⟨zR_A, "needCount", "(I)I"⟩
abbrev zb_A_leadsTo : ByteArray := prog_2_method_7_code
def zy_A_leadsTo : MethodName := ⟨zR_A, "leadsTo", "(II)Z"⟩
abbrev zb_A_appendNeed : ByteArray := prog_2_method_6_code
def zy_A_appendNeed : MethodName := ⟨zR_A, "appendNeed", "(II)V"⟩
abbrev zb_W_forgetAllOf : ByteArray := prog_1_method_28_code
def zy_W_forgetAllOf : MethodName := ⟨zR_W, "forgetAllOf", "(I)V"⟩
abbrev zb_W_apply : ByteArray := prog_1_method_9_code
def zy_W_apply : MethodName := ⟨zR_W, "apply", "(III)I"⟩
abbrev zb_W_isAsked : ByteArray := prog_1_method_16_code
def zy_W_isAsked : MethodName := ⟨zR_W, "isAsked", "(III)Z"⟩
abbrev zb_W_doing : ByteArray := prog_1_method_17_code
def zy_W_doing : MethodName := ⟨zR_W, "doing", "(IIII)I"⟩
abbrev zb_M_known : ByteArray := prog_3_method_3_code
def zy_M_known : MethodName := ⟨zR_M, "known", "(III)I"⟩
abbrev zb_W_doNeeds : ByteArray := prog_1_method_18_code
def zy_W_doNeeds : MethodName := ⟨zR_W, "doNeeds", "(IIII)I"⟩
abbrev zb_W_lacksProvider : ByteArray := prog_1_method_21_code
def zy_W_lacksProvider : MethodName := ⟨zR_W, "lacksProvider", "(III)Z"⟩
abbrev zb_T_providersOf : ByteArray := prog_4_method_14_code
def zy_T_providersOf : MethodName := ⟨zR_T, "providersOf", "(I)I"⟩
abbrev zb_A_givesOf : ByteArray := prog_2_method_13_code
def zy_A_givesOf : MethodName := ⟨zR_A, "givesOf", "(I)I"⟩
abbrev zb_A_wantsOf : ByteArray := prog_2_method_12_code
def zy_A_wantsOf : MethodName := ⟨zR_A, "wantsOf", "(I)I"⟩
abbrev zb_M_keepPassed : ByteArray := prog_3_method_4_code
def zy_M_keepPassed : MethodName := ⟨zR_M, "keepPassed", "(III)V"⟩
abbrev zb_W_doBelow : ByteArray := prog_1_method_19_code
def zy_W_doBelow : MethodName := ⟨zR_W, "doBelow", "(IIII)I"⟩
abbrev zb_W_lengthAlong : ByteArray := prog_1_method_20_code
def zy_W_lengthAlong : MethodName := ⟨zR_W, "lengthAlong", "(III)I"⟩
abbrev zb_A_goesAlong : ByteArray := prog_2_method_10_code
def zy_A_goesAlong : MethodName := ⟨zR_A, "goesAlong", "(II)Z"⟩
abbrev zb_T_rowLength : ByteArray := prog_4_method_11_code
def zy_T_rowLength : MethodName := ⟨zR_T, "rowLength", "(II)I"⟩
abbrev zb_T_rowAt : ByteArray := prog_4_method_12_code
def zy_T_rowAt : MethodName := ⟨zR_T, "rowAt", "(III)I"⟩
abbrev zb_W_makeOutput : ByteArray := prog_1_method_22_code
def zy_W_makeOutput : MethodName := ⟨zR_W, "makeOutput", "(III)Z"⟩
abbrev zb_M_keepMaker : ByteArray := prog_3_method_12_code
def zy_M_keepMaker : MethodName := ⟨zR_M, "keepMaker", "(IIII)V"⟩
abbrev zb_M_makerSettingOf : ByteArray := prog_3_method_11_code
def zy_M_makerSettingOf : MethodName := ⟨zR_M, "makerSettingOf", "(II)I"⟩
abbrev zb_W_joined : ByteArray := prog_1_method_23_code
def zy_W_joined : MethodName := ⟨zR_W, "joined", "(III)J"⟩
abbrev zb_A_kindOf : ByteArray := prog_2_method_11_code
def zy_A_kindOf : MethodName := ⟨zR_A, "kindOf", "(I)I"⟩
abbrev zb_T_valueOf : ByteArray := prog_4_method_13_code
def zy_T_valueOf : MethodName := ⟨zR_T, "valueOf", "(I)J"⟩
abbrev zb_W_joinBelow : ByteArray := prog_1_method_24_code
def zy_W_joinBelow : MethodName := ⟨zR_W, "joinBelow", "(JIII)J"⟩
abbrev zb_W_joinPart : ByteArray := prog_1_method_26_code
def zy_W_joinPart : MethodName := ⟨zR_W, "joinPart", "(IJIII)J"⟩
abbrev zb_M_resultOf : ByteArray := prog_3_method_7_code
def zy_M_resultOf : MethodName := ⟨zR_M, "resultOf", "(III)J"⟩
abbrev zb_Jm_max : ByteArray := prog_11_method_66_code
def zy_Jm_max : MethodName := ⟨zR_Jm, "max", "(JJ)J"⟩
abbrev zb_W_joinNeeds : ByteArray := prog_1_method_25_code
def zy_W_joinNeeds : MethodName := ⟨zR_W, "joinNeeds", "(JIII)J"⟩
abbrev zb_M_keepDone : ByteArray := prog_3_method_5_code
def zy_M_keepDone : MethodName := ⟨zR_M, "keepDone", "(IIIJ)V"⟩
abbrev zb_W_clash : ByteArray := prog_1_method_10_code
def zy_W_clash : MethodName := ⟨zR_W, "clash", "(I)I"⟩
abbrev zb_W_state : ByteArray := prog_1_method_11_code
def zy_W_state : MethodName := ⟨zR_W, "state", "(III)I"⟩
abbrev zb_W_worked : ByteArray := prog_1_method_13_code
def zy_W_worked : MethodName := ⟨zR_W, "worked", "(II)I"⟩
abbrev zb_M_timesDone : ByteArray := prog_3_method_8_code
def zy_M_timesDone : MethodName := ⟨zR_M, "timesDone", "(II)I"⟩
abbrev zb_W_done : ByteArray := prog_1_method_14_code
def zy_W_done : MethodName := ⟨zR_W, "done", "()I"⟩
abbrev zb_M_doneCount : ByteArray := prog_3_method_9_code
def zy_M_doneCount : MethodName := ⟨zR_M, "doneCount", "()I"⟩
abbrev zb_W_maker : ByteArray := prog_1_method_15_code
def zy_W_maker : MethodName := ⟨zR_W, "maker", "(II)I"⟩
abbrev zb_L_result : ByteArray := method_3_code
def zy_L_result : MethodName := ⟨zR_L, "result", "(LAspectWalk;III[J)I"⟩
abbrev zb_W_result : ByteArray := prog_1_method_12_code
def zy_W_result : MethodName := ⟨zR_W, "result", "(III)J"⟩
abbrev zb_R_init : ByteArray := prog_6_method_1_code
def zy_R_init : MethodName := ⟨zR_R, "<init>", "()V"⟩
abbrev zb_R_thrown : ByteArray := prog_6_method_2_code
def zy_R_thrown : MethodName := ⟨zR_R, "thrown", "()I"⟩
abbrev zb_R_target : ByteArray := prog_6_method_7_code
def zy_R_target : MethodName := ⟨zR_R, "target", "(JI)I"⟩
abbrev zb_R_alias : ByteArray := prog_6_method_8_code
def zy_R_alias : MethodName := ⟨zR_R, "alias", "(I)I"⟩
abbrev zb_R_isTarget : ByteArray := prog_6_method_3_code
def zy_R_isTarget : MethodName := ⟨zR_R, "isTarget", "(I)Z"⟩
abbrev zb_R_stands : ByteArray := prog_6_method_9_code
def zy_R_stands : MethodName := ⟨zR_R, "stands", "(I)I"⟩
abbrev zb_R_add : ByteArray := prog_6_method_14_code
def zy_R_add : MethodName := ⟨zR_R, "add", "(III)Z"⟩
abbrev zb_R_isOwn : ByteArray := prog_6_method_10_code
def zy_R_isOwn : MethodName := ⟨zR_R, "isOwn", "(I)Z"⟩
abbrev zb_R_forgetFrom : ByteArray := prog_6_method_13_code
def zy_R_forgetFrom : MethodName := ⟨zR_R, "forgetFrom", "(I)V"⟩
abbrev zb_R_hasTouched : ByteArray := prog_6_method_11_code
def zy_R_hasTouched : MethodName := ⟨zR_R, "hasTouched", "(I)Z"⟩
abbrev zb_R_forgetTarget : ByteArray := prog_6_method_12_code
def zy_R_forgetTarget : MethodName := ⟨zR_R, "forgetTarget", "(I)V"⟩
abbrev zb_R_change : ByteArray := prog_6_method_15_code
def zy_R_change : MethodName := ⟨zR_R, "change", "(IJI)Z"⟩
abbrev zb_R_aspect : ByteArray := prog_6_method_16_code
def zy_R_aspect : MethodName := ⟨zR_R, "aspect", "(IIIII)I"⟩
abbrev zb_R_need : ByteArray := prog_6_method_20_code
def zy_R_need : MethodName := ⟨zR_R, "need", "(II)I"⟩
abbrev zb_R_isAspect : ByteArray := prog_6_method_4_code
def zy_R_isAspect : MethodName := ⟨zR_R, "isAspect", "(I)Z"⟩
abbrev zb_R_hasNeed : ByteArray := prog_6_method_17_code
def zy_R_hasNeed : MethodName := ⟨zR_R, "hasNeed", "(II)Z"⟩
abbrev zb_R_neederBits : ByteArray := prog_6_method_18_code
def zy_R_neederBits : MethodName := ⟨zR_R, "neederBits", "(I)I"⟩
abbrev zb_R_forgetAspect : ByteArray := prog_6_method_19_code
def zy_R_forgetAspect : MethodName := ⟨zR_R, "forgetAspect", "(I)V"⟩
abbrev zb_R_placeOf : ByteArray := prog_6_method_6_code
def zy_R_placeOf : MethodName := ⟨zR_R, "placeOf", "(III)I"⟩
abbrev zb_R_apply : ByteArray := prog_6_method_29_code
def zy_R_apply : MethodName := ⟨zR_R, "apply", "(III)I"⟩
abbrev zb_R_isSetting : ByteArray := prog_6_method_5_code
def zy_R_isSetting : MethodName := ⟨zR_R, "isSetting", "(I)Z"⟩
abbrev zb_R_push : ByteArray := prog_6_method_21_code
def zy_R_push : MethodName := ⟨zR_R, "push", "(II)V"⟩
abbrev zb_R_goOn : ByteArray := prog_6_method_28_code
def zy_R_goOn : MethodName := ⟨zR_R, "goOn", "()V"⟩
abbrev zb_R_waitsForNeed : ByteArray := prog_6_method_22_code
def zy_R_waitsForNeed : MethodName := ⟨zR_R, "waitsForNeed", "(II)Z"⟩
abbrev zb_R_hasAllWanted : ByteArray := prog_6_method_23_code
def zy_R_hasAllWanted : MethodName := ⟨zR_R, "hasAllWanted", "(II)Z"⟩
abbrev zb_R_waitsForTarget : ByteArray := prog_6_method_24_code
def zy_R_waitsForTarget : MethodName := ⟨zR_R, "waitsForTarget", "(II)Z"⟩
abbrev zb_R_makes : ByteArray := prog_6_method_27_code
def zy_R_makes : MethodName := ⟨zR_R, "makes", "(II)Z"⟩
abbrev zb_R_resultOf : ByteArray := prog_6_method_26_code
def zy_R_resultOf : MethodName := ⟨zR_R, "resultOf", "(II)J"⟩
abbrev zb_R_with : ByteArray := prog_6_method_25_code
def zy_R_with : MethodName := ⟨zR_R, "with", "(IJJ)J"⟩
abbrev zb_R_clash : ByteArray := prog_6_method_30_code
def zy_R_clash : MethodName := ⟨zR_R, "clash", "(I)I"⟩
abbrev zb_R_state : ByteArray := prog_6_method_31_code
def zy_R_state : MethodName := ⟨zR_R, "state", "(III)I"⟩
abbrev zb_R_result : ByteArray := prog_6_method_32_code
def zy_R_result : MethodName := ⟨zR_R, "result", "(III)J"⟩
abbrev zb_R_worked : ByteArray := prog_6_method_33_code
def zy_R_worked : MethodName := ⟨zR_R, "worked", "(II)I"⟩
abbrev zb_R_done : ByteArray := prog_6_method_34_code
def zy_R_done : MethodName := ⟨zR_R, "done", "()I"⟩
abbrev zb_R_maker : ByteArray := prog_6_method_35_code
def zy_R_maker : MethodName := ⟨zR_R, "maker", "(II)I"⟩
abbrev zb_L_law : ByteArray := code
def zy_L_law : MethodName := ⟨zR_L, "law", "([I)Z"⟩
/-- the good words of the tables: every method's contract stands over these -/
def zW : List Cond := lw_tbl.filter goodWord
theorem zin {w : Cond} (i : Nat) (h : lw_tbl[i]? = some w) (g : goodWord w = true) : w ∈ zW := List.mem_filter.mpr ⟨List.mem_of_getElem? h, g⟩
theorem zin_T : ∀ w ∈ u_ws zR_T zF_T 7, w ∈ zW := by decide +kernel
theorem zin_A : ∀ w ∈ u_ws zR_A zF_A 9, w ∈ zW := by decide +kernel
theorem zin_M : ∀ w ∈ u_ws zR_M zF_M 7, w ∈ zW := by decide +kernel
theorem zin_W : ∀ w ∈ u_ws zR_W zF_W 4, w ∈ zW := by decide +kernel
theorem zin_R : ∀ w ∈ u_ws zR_R zF_R 26, w ∈ zW := by decide +kernel
abbrev zws_W_init : List Cond := Cond.code zy_W_init zb_W_init 1 none :: zW
abbrev zws_T_init : List Cond := Cond.code zy_T_init zb_T_init 1 none :: zW
abbrev zws_A_init : List Cond := Cond.code zy_A_init zb_A_init 1 none :: zW
abbrev zws_M_init : List Cond := Cond.code zy_M_init zb_M_init 1 none :: zW
abbrev zws_Ja_fill : List Cond := Cond.code zy_Ja_fill zb_Ja_fill 4 none :: zW
abbrev zws_W_target : List Cond := Cond.code zy_W_target zb_W_target 4 (some .int) :: zW
abbrev zws_T_open : List Cond := Cond.code zy_T_open zb_T_open 5 (some .int) :: zW
abbrev zws_W_alias : List Cond := Cond.code zy_W_alias zb_W_alias 2 (some .int) :: zW
abbrev zws_T_has : List Cond := Cond.code zy_T_has zb_T_has 2 (some .boolean) :: zW
abbrev zws_T_openAlias : List Cond := Cond.code zy_T_openAlias zb_T_openAlias 3 (some .int) :: zW
abbrev zws_W_stands : List Cond := Cond.code zy_W_stands zb_W_stands 2 (some .int) :: zW
abbrev zws_T_end : List Cond := Cond.code zy_T_end zb_T_end 2 (some .int) :: zW
abbrev zws_W_add : List Cond := Cond.code zy_W_add zb_W_add 4 (some .boolean) :: zW
abbrev zws_T_isAlias : List Cond := Cond.code zy_T_isAlias zb_T_isAlias 2 (some .boolean) :: zW
abbrev zws_T_append : List Cond := Cond.code zy_T_append zb_T_append 7 (some .boolean) :: zW
abbrev zws_T_leadsTo : List Cond := Cond.code zy_T_leadsTo zb_T_leadsTo 3 (some .boolean) :: zW
abbrev zws_W_forgetFrom : List Cond := Cond.code zy_W_forgetFrom zb_W_forgetFrom 4 none :: zW
abbrev zws_T_count : List Cond := Cond.code zy_T_count zb_T_count 1 (some .int) :: zW
abbrev zws_A_count : List Cond := Cond.code zy_A_count zb_A_count 1 (some .int) :: zW
abbrev zws_A_nameOf : List Cond := Cond.code zy_A_nameOf zb_A_nameOf 2 (some .int) :: zW
abbrev zws_M_forget : List Cond := Cond.code zy_M_forget zb_M_forget 5 none :: zW
abbrev zws_M_pair : List Cond := Cond.code zy_M_pair zb_M_pair 2 (some .int) :: zW
abbrev zws_Ji_bitCount : List Cond := Cond.code zy_Ji_bitCount zb_Ji_bitCount 1 (some .int) :: zW
abbrev zws_M_makerOf : List Cond := Cond.code zy_M_makerOf zb_M_makerOf 3 (some .int) :: zW
abbrev zws_W_change : List Cond := Cond.code zy_W_change zb_W_change 5 (some .boolean) :: zW
abbrev zws_T_assign : List Cond := Cond.code zy_T_assign zb_T_assign 6 (some .boolean) :: zW
abbrev zws_W_aspect : List Cond := Cond.code zy_W_aspect zb_W_aspect 6 (some .int) :: zW
abbrev zws_A_open : List Cond := Cond.code zy_A_open zb_A_open 7 (some .int) :: zW
abbrev zws_W_need : List Cond := Cond.code zy_W_need zb_W_need 3 (some .int) :: zW
abbrev zws_A_has : List Cond := Cond.code zy_A_has zb_A_has 2 (some .boolean) :: zW
abbrev zws_A_needsDirectly : List Cond := Cond.code zy_A_needsDirectly zb_A_needsDirectly 4 (some .boolean) :: zW
abbrev zws_A_needAt : List Cond := Cond.code zy_A_needAt zb_A_needAt 3 (some .int) :: zW
abbrev zws_A_needCount : List Cond := Cond.code zy_A_needCount zb_A_needCount 2 (some .int) :: zW
abbrev zws_A_leadsTo : List Cond := Cond.code zy_A_leadsTo zb_A_leadsTo 3 (some .boolean) :: zW
abbrev zws_A_appendNeed : List Cond := Cond.code zy_A_appendNeed zb_A_appendNeed 4 none :: zW
abbrev zws_W_forgetAllOf : List Cond := Cond.code zy_W_forgetAllOf zb_W_forgetAllOf 4 none :: zW
abbrev zws_W_apply : List Cond := Cond.code zy_W_apply zb_W_apply 4 (some .int) :: zW
abbrev zws_W_isAsked : List Cond := Cond.code zy_W_isAsked zb_W_isAsked 4 (some .boolean) :: zW
abbrev zws_W_doing : List Cond := Cond.code zy_W_doing zb_W_doing 8 (some .int) :: zW
abbrev zws_M_known : List Cond := Cond.code zy_M_known zb_M_known 5 (some .int) :: zW
abbrev zws_W_doNeeds : List Cond := Cond.code zy_W_doNeeds zb_W_doNeeds 7 (some .int) :: zW
abbrev zws_W_lacksProvider : List Cond := Cond.code zy_W_lacksProvider zb_W_lacksProvider 7 (some .boolean) :: zW
abbrev zws_T_providersOf : List Cond := Cond.code zy_T_providersOf zb_T_providersOf 2 (some .int) :: zW
abbrev zws_A_givesOf : List Cond := Cond.code zy_A_givesOf zb_A_givesOf 2 (some .int) :: zW
abbrev zws_A_wantsOf : List Cond := Cond.code zy_A_wantsOf zb_A_wantsOf 2 (some .int) :: zW
abbrev zws_M_keepPassed : List Cond := Cond.code zy_M_keepPassed zb_M_keepPassed 4 none :: zW
abbrev zws_W_doBelow : List Cond := Cond.code zy_W_doBelow zb_W_doBelow 9 (some .int) :: zW
abbrev zws_W_lengthAlong : List Cond := Cond.code zy_W_lengthAlong zb_W_lengthAlong 4 (some .int) :: zW
abbrev zws_A_goesAlong : List Cond := Cond.code zy_A_goesAlong zb_A_goesAlong 3 (some .boolean) :: zW
abbrev zws_T_rowLength : List Cond := Cond.code zy_T_rowLength zb_T_rowLength 3 (some .int) :: zW
abbrev zws_T_rowAt : List Cond := Cond.code zy_T_rowAt zb_T_rowAt 4 (some .int) :: zW
abbrev zws_W_makeOutput : List Cond := Cond.code zy_W_makeOutput zb_W_makeOutput 6 (some .boolean) :: zW
abbrev zws_M_keepMaker : List Cond := Cond.code zy_M_keepMaker zb_M_keepMaker 5 none :: zW
abbrev zws_M_makerSettingOf : List Cond := Cond.code zy_M_makerSettingOf zb_M_makerSettingOf 3 (some .int) :: zW
abbrev zws_W_joined : List Cond := Cond.code zy_W_joined zb_W_joined 9 (some .long) :: zW
abbrev zws_A_kindOf : List Cond := Cond.code zy_A_kindOf zb_A_kindOf 2 (some .int) :: zW
abbrev zws_T_valueOf : List Cond := Cond.code zy_T_valueOf zb_T_valueOf 2 (some .long) :: zW
abbrev zws_W_joinBelow : List Cond := Cond.code zy_W_joinBelow zb_W_joinBelow 13 (some .long) :: zW
abbrev zws_W_joinPart : List Cond := Cond.code zy_W_joinPart zb_W_joinPart 9 (some .long) :: zW
abbrev zws_M_resultOf : List Cond := Cond.code zy_M_resultOf zb_M_resultOf 4 (some .long) :: zW
abbrev zws_Jm_max : List Cond := Cond.code zy_Jm_max zb_Jm_max 4 (some .long) :: zW
abbrev zws_W_joinNeeds : List Cond := Cond.code zy_W_joinNeeds zb_W_joinNeeds 10 (some .long) :: zW
abbrev zws_M_keepDone : List Cond := Cond.code zy_M_keepDone zb_M_keepDone 7 none :: zW
abbrev zws_W_clash : List Cond := Cond.code zy_W_clash zb_W_clash 2 (some .int) :: zW
abbrev zws_W_state : List Cond := Cond.code zy_W_state zb_W_state 4 (some .int) :: zW
abbrev zws_W_worked : List Cond := Cond.code zy_W_worked zb_W_worked 3 (some .int) :: zW
abbrev zws_M_timesDone : List Cond := Cond.code zy_M_timesDone zb_M_timesDone 3 (some .int) :: zW
abbrev zws_W_done : List Cond := Cond.code zy_W_done zb_W_done 1 (some .int) :: zW
abbrev zws_M_doneCount : List Cond := Cond.code zy_M_doneCount zb_M_doneCount 1 (some .int) :: zW
abbrev zws_W_maker : List Cond := Cond.code zy_W_maker zb_W_maker 3 (some .int) :: zW
abbrev zws_W_result : List Cond := Cond.code zy_W_result zb_W_result 5 (some .long) :: zW
abbrev zws_R_init : List Cond := Cond.code zy_R_init zb_R_init 2 none :: zW
abbrev zws_R_thrown : List Cond := Cond.code zy_R_thrown zb_R_thrown 1 (some .int) :: zW
abbrev zws_R_target : List Cond := Cond.code zy_R_target zb_R_target 4 (some .int) :: zW
abbrev zws_R_alias : List Cond := Cond.code zy_R_alias zb_R_alias 2 (some .int) :: zW
abbrev zws_R_isTarget : List Cond := Cond.code zy_R_isTarget zb_R_isTarget 2 (some .boolean) :: zW
abbrev zws_R_stands : List Cond := Cond.code zy_R_stands zb_R_stands 2 (some .int) :: zW
abbrev zws_R_add : List Cond := Cond.code zy_R_add zb_R_add 4 (some .boolean) :: zW
abbrev zws_R_isOwn : List Cond := Cond.code zy_R_isOwn zb_R_isOwn 2 (some .boolean) :: zW
abbrev zws_R_forgetFrom : List Cond := Cond.code zy_R_forgetFrom zb_R_forgetFrom 3 none :: zW
abbrev zws_R_hasTouched : List Cond := Cond.code zy_R_hasTouched zb_R_hasTouched 5 (some .boolean) :: zW
abbrev zws_R_forgetTarget : List Cond := Cond.code zy_R_forgetTarget zb_R_forgetTarget 3 none :: zW
abbrev zws_R_change : List Cond := Cond.code zy_R_change zb_R_change 6 (some .boolean) :: zW
abbrev zws_R_aspect : List Cond := Cond.code zy_R_aspect zb_R_aspect 6 (some .int) :: zW
abbrev zws_R_need : List Cond := Cond.code zy_R_need zb_R_need 5 (some .int) :: zW
abbrev zws_R_isAspect : List Cond := Cond.code zy_R_isAspect zb_R_isAspect 2 (some .boolean) :: zW
abbrev zws_R_hasNeed : List Cond := Cond.code zy_R_hasNeed zb_R_hasNeed 5 (some .boolean) :: zW
abbrev zws_R_neederBits : List Cond := Cond.code zy_R_neederBits zb_R_neederBits 6 (some .int) :: zW
abbrev zws_R_forgetAspect : List Cond := Cond.code zy_R_forgetAspect zb_R_forgetAspect 5 none :: zW
abbrev zws_R_placeOf : List Cond := Cond.code zy_R_placeOf zb_R_placeOf 3 (some .int) :: zW
abbrev zws_R_apply : List Cond := Cond.code zy_R_apply zb_R_apply 5 (some .int) :: zW
abbrev zws_R_isSetting : List Cond := Cond.code zy_R_isSetting zb_R_isSetting 1 (some .boolean) :: zW
abbrev zws_R_push : List Cond := Cond.code zy_R_push zb_R_push 3 none :: zW
abbrev zws_R_goOn : List Cond := Cond.code zy_R_goOn zb_R_goOn 4 none :: zW
abbrev zws_R_waitsForNeed : List Cond := Cond.code zy_R_waitsForNeed zb_R_waitsForNeed 5 (some .boolean) :: zW
abbrev zws_R_hasAllWanted : List Cond := Cond.code zy_R_hasAllWanted zb_R_hasAllWanted 6 (some .boolean) :: zW
abbrev zws_R_waitsForTarget : List Cond := Cond.code zy_R_waitsForTarget zb_R_waitsForTarget 6 (some .boolean) :: zW
abbrev zws_R_makes : List Cond := Cond.code zy_R_makes zb_R_makes 5 (some .boolean) :: zW
abbrev zws_R_resultOf : List Cond := Cond.code zy_R_resultOf zb_R_resultOf 8 (some .long) :: zW
abbrev zws_R_with : List Cond := Cond.code zy_R_with zb_R_with 5 (some .long) :: zW
abbrev zws_R_clash : List Cond := Cond.code zy_R_clash zb_R_clash 2 (some .int) :: zW
abbrev zws_R_state : List Cond := Cond.code zy_R_state zb_R_state 4 (some .int) :: zW
abbrev zws_R_result : List Cond := Cond.code zy_R_result zb_R_result 4 (some .long) :: zW
abbrev zws_R_worked : List Cond := Cond.code zy_R_worked zb_R_worked 3 (some .int) :: zW
abbrev zws_R_done : List Cond := Cond.code zy_R_done zb_R_done 3 (some .int) :: zW
abbrev zws_R_maker : List Cond := Cond.code zy_R_maker zb_R_maker 4 (some .int) :: zW
theorem zw_0 : Cond.initialized "AspectWalkLaw" ∈ zW := zin 30 (by decide +kernel) rfl
theorem zw_1 : Cond.initialized "AspectWalk" ∈ zW := zin 31 (by decide +kernel) rfl
theorem zw_2 : Cond.initialized "AspectWalk$Targets" ∈ zW := zin 32 (by decide +kernel) rfl
theorem zw_3 : Cond.initialized "AspectWalk$Aspects" ∈ zW := zin 33 (by decide +kernel) rfl
theorem zw_4 : Cond.initialized "AspectWalk$Memory" ∈ zW := zin 34 (by decide +kernel) rfl
theorem zw_5 : Cond.initialized "java/util/Arrays" ∈ zW := zin 35 (by decide +kernel) rfl
theorem zw_6 : Cond.initialized "AspectWalkModel" ∈ zW := zin 36 (by decide +kernel) rfl
theorem zw_7 : Cond.initialized "java/lang/Integer" ∈ zW := zin 37 (by decide +kernel) rfl
theorem zw_8 : Cond.initialized "java/lang/Math" ∈ zW := zin 38 (by decide +kernel) rfl
theorem zw_14 : Cond.classLink "AspectWalkLaw" 8 "AspectWalk" ∈ zW := zin 44 (by decide +kernel) rfl
theorem zw_15 : Cond.instantiable "AspectWalk" 4 ∈ zW := zin 45 (by decide +kernel) rfl
theorem zw_16 : Cond.methodLink "AspectWalkLaw" 17 zy_W_init ∈ zW := zin 46 (by decide +kernel) rfl
theorem zw_17 : Cond.instanceMethod zy_W_init ∈ zW := zin 47 (by decide +kernel) rfl
theorem zw_18 : Cond.code zy_W_init prog_1_method_1_code 1 (Option.none : Option FieldType) ∈ zW := zin 48 (by decide +kernel) rfl
theorem zw_19 : Cond.methodLink "AspectWalk" 3 objectInit ∈ zW := zin 49 (by decide +kernel) rfl
theorem zw_20 : Cond.instanceMethod objectInit ∈ zW := zin 50 (by decide +kernel) rfl
theorem zw_21 : Cond.code objectInit object_method_1_code 1 (Option.none : Option FieldType) ∈ zW := zin 51 (by decide +kernel) rfl
theorem zw_22 : Cond.classLink "AspectWalk" 9 "AspectWalk$Targets" ∈ zW := zin 52 (by decide +kernel) rfl
theorem zw_23 : Cond.instantiable "AspectWalk$Targets" 7 ∈ zW := zin 53 (by decide +kernel) rfl
theorem zw_25 : Cond.instanceMethod zy_T_init ∈ zW := zin 55 (by decide +kernel) rfl
theorem zw_26 : Cond.code zy_T_init prog_4_method_1_code 1 (Option.none : Option FieldType) ∈ zW := zin 56 (by decide +kernel) rfl
theorem zw_27 : Cond.methodLink "AspectWalk$Targets" 3 objectInit ∈ zW := zin 57 (by decide +kernel) rfl
theorem zw_28 : Cond.fieldLink "AspectWalk$Targets" 9 "AspectWalk$Targets" "values" "[J" ∈ zW := zin 58 (by decide +kernel) rfl
theorem zw_29 : Cond.fieldLink "AspectWalk$Targets" 15 "AspectWalk$Targets" "providers" "[I" ∈ zW := zin 59 (by decide +kernel) rfl
theorem zw_30 : Cond.fieldLink "AspectWalk$Targets" 19 "AspectWalk$Targets" "ends" "[I" ∈ zW := zin 60 (by decide +kernel) rfl
theorem zw_31 : Cond.fieldLink "AspectWalk$Targets" 22 "AspectWalk$Targets" "rows" "[I" ∈ zW := zin 61 (by decide +kernel) rfl
theorem zw_32 : Cond.fieldLink "AspectWalk$Targets" 25 "AspectWalk$Targets" "rowLengths" "[I" ∈ zW := zin 62 (by decide +kernel) rfl
theorem zw_33 : Cond.fieldLink "AspectWalk$Targets" 28 "AspectWalk$Targets" "reached" "[I" ∈ zW := zin 63 (by decide +kernel) rfl
theorem zw_34 : Cond.fieldLink "AspectWalk$Targets" 31 "AspectWalk$Targets" "opened" "I" ∈ zW := zin 64 (by decide +kernel) rfl
theorem zw_50 : Cond.arrayClass FieldType.long ∈ zW := zin 80 (by decide +kernel) rfl
theorem zw_51 : Cond.arrayClass FieldType.int ∈ zW := zin 81 (by decide +kernel) rfl
theorem zw_52 : Cond.classLink "AspectWalk" 16 "AspectWalk$Aspects" ∈ zW := zin 82 (by decide +kernel) rfl
theorem zw_53 : Cond.instantiable "AspectWalk$Aspects" 9 ∈ zW := zin 83 (by decide +kernel) rfl
theorem zw_55 : Cond.instanceMethod zy_A_init ∈ zW := zin 85 (by decide +kernel) rfl
theorem zw_56 : Cond.code zy_A_init prog_2_method_1_code 1 (Option.none : Option FieldType) ∈ zW := zin 86 (by decide +kernel) rfl
theorem zw_57 : Cond.methodLink "AspectWalk$Aspects" 3 objectInit ∈ zW := zin 87 (by decide +kernel) rfl
theorem zw_58 : Cond.fieldLink "AspectWalk$Aspects" 9 "AspectWalk$Aspects" "kinds" "[I" ∈ zW := zin 88 (by decide +kernel) rfl
theorem zw_59 : Cond.fieldLink "AspectWalk$Aspects" 15 "AspectWalk$Aspects" "alongs" "[I" ∈ zW := zin 89 (by decide +kernel) rfl
theorem zw_60 : Cond.fieldLink "AspectWalk$Aspects" 18 "AspectWalk$Aspects" "wants" "[I" ∈ zW := zin 90 (by decide +kernel) rfl
theorem zw_61 : Cond.fieldLink "AspectWalk$Aspects" 21 "AspectWalk$Aspects" "gives" "[I" ∈ zW := zin 91 (by decide +kernel) rfl
theorem zw_62 : Cond.fieldLink "AspectWalk$Aspects" 24 "AspectWalk$Aspects" "names" "[I" ∈ zW := zin 92 (by decide +kernel) rfl
theorem zw_63 : Cond.fieldLink "AspectWalk$Aspects" 27 "AspectWalk$Aspects" "needs" "[I" ∈ zW := zin 93 (by decide +kernel) rfl
theorem zw_64 : Cond.fieldLink "AspectWalk$Aspects" 30 "AspectWalk$Aspects" "needCounts" "[I" ∈ zW := zin 94 (by decide +kernel) rfl
theorem zw_65 : Cond.fieldLink "AspectWalk$Aspects" 33 "AspectWalk$Aspects" "reached" "[I" ∈ zW := zin 95 (by decide +kernel) rfl
theorem zw_66 : Cond.fieldLink "AspectWalk$Aspects" 36 "AspectWalk$Aspects" "opened" "I" ∈ zW := zin 96 (by decide +kernel) rfl
theorem zw_86 : Cond.classLink "AspectWalk" 23 "AspectWalk$Memory" ∈ zW := zin 116 (by decide +kernel) rfl
theorem zw_87 : Cond.instantiable "AspectWalk$Memory" 7 ∈ zW := zin 117 (by decide +kernel) rfl
theorem zw_88 : Cond.methodLink "AspectWalk" 25 zy_M_init ∈ zW := zin 118 (by decide +kernel) rfl
theorem zw_89 : Cond.instanceMethod zy_M_init ∈ zW := zin 119 (by decide +kernel) rfl
theorem zw_90 : Cond.code zy_M_init prog_3_method_1_code 1 (Option.none : Option FieldType) ∈ zW := zin 120 (by decide +kernel) rfl
theorem zw_91 : Cond.methodLink "AspectWalk$Memory" 3 objectInit ∈ zW := zin 121 (by decide +kernel) rfl
theorem zw_92 : Cond.methodLink "AspectWalk$Memory" 31 zy_Ja_fill ∈ zW := zin 122 (by decide +kernel) rfl
theorem zw_93 : Cond.static zy_Ja_fill ∈ zW := zin 123 (by decide +kernel) rfl
theorem zw_94 : Cond.code zy_Ja_fill prog_15_method_103_code 4 (Option.none : Option FieldType) ∈ zW := zin 124 (by decide +kernel) rfl
theorem zw_95 : Cond.fieldLink "AspectWalk$Memory" 11 "AspectWalk$Memory" "doneSettings" "[I" ∈ zW := zin 125 (by decide +kernel) rfl
theorem zw_96 : Cond.fieldLink "AspectWalk$Memory" 15 "AspectWalk$Memory" "passedSettings" "[I" ∈ zW := zin 126 (by decide +kernel) rfl
theorem zw_97 : Cond.fieldLink "AspectWalk$Memory" 18 "AspectWalk$Memory" "doneTimes" "[I" ∈ zW := zin 127 (by decide +kernel) rfl
theorem zw_98 : Cond.fieldLink "AspectWalk$Memory" 21 "AspectWalk$Memory" "results" "[J" ∈ zW := zin 128 (by decide +kernel) rfl
theorem zw_99 : Cond.fieldLink "AspectWalk$Memory" 25 "AspectWalk$Memory" "makers" "[I" ∈ zW := zin 129 (by decide +kernel) rfl
theorem zw_100 : Cond.fieldLink "AspectWalk$Memory" 28 "AspectWalk$Memory" "makerSettings" "[I" ∈ zW := zin 130 (by decide +kernel) rfl
theorem zw_101 : Cond.fieldLink "AspectWalk$Memory" 41 "AspectWalk$Memory" "nowDone" "I" ∈ zW := zin 131 (by decide +kernel) rfl
theorem zw_117 : Cond.methodLink "AspectWalk" 34 zy_Ja_fill ∈ zW := zin 147 (by decide +kernel) rfl
theorem zw_118 : Cond.fieldLink "AspectWalk" 12 "AspectWalk" "targets" "LAspectWalk$Targets;" ∈ zW := zin 148 (by decide +kernel) rfl
theorem zw_119 : Cond.fieldLink "AspectWalk" 19 "AspectWalk" "aspects" "LAspectWalk$Aspects;" ∈ zW := zin 149 (by decide +kernel) rfl
theorem zw_120 : Cond.fieldLink "AspectWalk" 26 "AspectWalk" "memory" "LAspectWalk$Memory;" ∈ zW := zin 150 (by decide +kernel) rfl
theorem zw_121 : Cond.fieldLink "AspectWalk" 30 "AspectWalk" "latestClash" "[I" ∈ zW := zin 151 (by decide +kernel) rfl
theorem zw_131 : Cond.methodLink "AspectWalkLaw" 23 zy_W_target ∈ zW := zin 161 (by decide +kernel) rfl
theorem zw_132 : Cond.instanceMethod zy_W_target ∈ zW := zin 162 (by decide +kernel) rfl
theorem zw_133 : Cond.selects "AspectWalk" zy_W_target zy_W_target ∈ zW := zin 163 (by decide +kernel) rfl
theorem zw_134 : Cond.code zy_W_target prog_1_method_2_code 4 (Option.some FieldType.int) ∈ zW := zin 164 (by decide +kernel) rfl
theorem zw_135 : Cond.methodLink "AspectWalk" 40 zy_T_open ∈ zW := zin 165 (by decide +kernel) rfl
theorem zw_136 : Cond.instanceMethod zy_T_open ∈ zW := zin 166 (by decide +kernel) rfl
theorem zw_137 : Cond.selects "AspectWalk$Targets" zy_T_open zy_T_open ∈ zW := zin 167 (by decide +kernel) rfl
theorem zw_138 : Cond.code zy_T_open prog_4_method_4_code 5 (Option.some FieldType.int) ∈ zW := zin 168 (by decide +kernel) rfl
theorem zw_139 : Cond.methodLink "AspectWalkLaw" 28 zy_W_alias ∈ zW := zin 169 (by decide +kernel) rfl
theorem zw_140 : Cond.instanceMethod zy_W_alias ∈ zW := zin 170 (by decide +kernel) rfl
theorem zw_141 : Cond.selects "AspectWalk" zy_W_alias zy_W_alias ∈ zW := zin 171 (by decide +kernel) rfl
theorem zw_142 : Cond.code zy_W_alias prog_1_method_3_code 2 (Option.some FieldType.int) ∈ zW := zin 172 (by decide +kernel) rfl
theorem zw_143 : Cond.methodLink "AspectWalk" 44 zy_T_has ∈ zW := zin 173 (by decide +kernel) rfl
theorem zw_144 : Cond.instanceMethod zy_T_has ∈ zW := zin 174 (by decide +kernel) rfl
theorem zw_145 : Cond.selects "AspectWalk$Targets" zy_T_has zy_T_has ∈ zW := zin 175 (by decide +kernel) rfl
theorem zw_146 : Cond.code zy_T_has prog_4_method_3_code 2 (Option.some FieldType.boolean) ∈ zW := zin 176 (by decide +kernel) rfl
theorem zw_147 : Cond.methodLink "AspectWalk" 48 zy_T_openAlias ∈ zW := zin 177 (by decide +kernel) rfl
theorem zw_148 : Cond.instanceMethod zy_T_openAlias ∈ zW := zin 178 (by decide +kernel) rfl
theorem zw_149 : Cond.selects "AspectWalk$Targets" zy_T_openAlias zy_T_openAlias ∈ zW := zin 179 (by decide +kernel) rfl
theorem zw_150 : Cond.code zy_T_openAlias prog_4_method_5_code 3 (Option.some FieldType.int) ∈ zW := zin 180 (by decide +kernel) rfl
theorem zw_151 : Cond.methodLink "AspectWalkLaw" 33 zy_W_stands ∈ zW := zin 181 (by decide +kernel) rfl
theorem zw_152 : Cond.instanceMethod zy_W_stands ∈ zW := zin 182 (by decide +kernel) rfl
theorem zw_153 : Cond.selects "AspectWalk" zy_W_stands zy_W_stands ∈ zW := zin 183 (by decide +kernel) rfl
theorem zw_154 : Cond.code zy_W_stands prog_1_method_4_code 2 (Option.some FieldType.int) ∈ zW := zin 184 (by decide +kernel) rfl
theorem zw_155 : Cond.methodLink "AspectWalk" 52 zy_T_end ∈ zW := zin 185 (by decide +kernel) rfl
theorem zw_156 : Cond.instanceMethod zy_T_end ∈ zW := zin 186 (by decide +kernel) rfl
theorem zw_157 : Cond.selects "AspectWalk$Targets" zy_T_end zy_T_end ∈ zW := zin 187 (by decide +kernel) rfl
theorem zw_158 : Cond.code zy_T_end prog_4_method_6_code 2 (Option.some FieldType.int) ∈ zW := zin 188 (by decide +kernel) rfl
theorem zw_159 : Cond.methodLink "AspectWalkLaw" 37 zy_W_add ∈ zW := zin 189 (by decide +kernel) rfl
theorem zw_160 : Cond.instanceMethod zy_W_add ∈ zW := zin 190 (by decide +kernel) rfl
theorem zw_161 : Cond.selects "AspectWalk" zy_W_add zy_W_add ∈ zW := zin 191 (by decide +kernel) rfl
theorem zw_162 : Cond.code zy_W_add prog_1_method_5_code 4 (Option.some FieldType.boolean) ∈ zW := zin 192 (by decide +kernel) rfl
theorem zw_163 : Cond.methodLink "AspectWalk" 55 zy_T_isAlias ∈ zW := zin 193 (by decide +kernel) rfl
theorem zw_164 : Cond.instanceMethod zy_T_isAlias ∈ zW := zin 194 (by decide +kernel) rfl
theorem zw_165 : Cond.selects "AspectWalk$Targets" zy_T_isAlias zy_T_isAlias ∈ zW := zin 195 (by decide +kernel) rfl
theorem zw_166 : Cond.code zy_T_isAlias prog_4_method_7_code 2 (Option.some FieldType.boolean) ∈ zW := zin 196 (by decide +kernel) rfl
theorem zw_167 : Cond.methodLink "AspectWalk" 58 zy_T_append ∈ zW := zin 197 (by decide +kernel) rfl
theorem zw_168 : Cond.instanceMethod zy_T_append ∈ zW := zin 198 (by decide +kernel) rfl
theorem zw_169 : Cond.selects "AspectWalk$Targets" zy_T_append zy_T_append ∈ zW := zin 199 (by decide +kernel) rfl
theorem zw_170 : Cond.code zy_T_append prog_4_method_9_code 7 (Option.some FieldType.boolean) ∈ zW := zin 200 (by decide +kernel) rfl
theorem zw_171 : Cond.methodLink "AspectWalk$Targets" 35 zy_T_leadsTo ∈ zW := zin 201 (by decide +kernel) rfl
theorem zw_172 : Cond.instanceMethod zy_T_leadsTo ∈ zW := zin 202 (by decide +kernel) rfl
theorem zw_173 : Cond.selects "AspectWalk$Targets" zy_T_leadsTo zy_T_leadsTo ∈ zW := zin 203 (by decide +kernel) rfl
theorem zw_174 : Cond.code zy_T_leadsTo prog_4_method_10_code 3 (Option.some FieldType.boolean) ∈ zW := zin 204 (by decide +kernel) rfl
theorem zw_175 : Cond.methodLink "AspectWalk" 62 zy_W_forgetFrom ∈ zW := zin 205 (by decide +kernel) rfl
theorem zw_177 : Cond.instanceMethod zy_W_forgetFrom ∈ zW := zin 207 (by decide +kernel) rfl
theorem zw_178 : Cond.code zy_W_forgetFrom prog_1_method_27_code 4 (Option.none : Option FieldType) ∈ zW := zin 208 (by decide +kernel) rfl
theorem zw_179 : Cond.methodLink "AspectWalk" 212 zy_T_count ∈ zW := zin 209 (by decide +kernel) rfl
theorem zw_180 : Cond.instanceMethod zy_T_count ∈ zW := zin 210 (by decide +kernel) rfl
theorem zw_181 : Cond.selects "AspectWalk$Targets" zy_T_count zy_T_count ∈ zW := zin 211 (by decide +kernel) rfl
theorem zw_182 : Cond.code zy_T_count prog_4_method_2_code 1 (Option.some FieldType.int) ∈ zW := zin 212 (by decide +kernel) rfl
theorem zw_183 : Cond.methodLink "AspectWalk" 215 zy_T_leadsTo ∈ zW := zin 213 (by decide +kernel) rfl
theorem zw_184 : Cond.methodLink "AspectWalk" 216 zy_A_count ∈ zW := zin 214 (by decide +kernel) rfl
theorem zw_185 : Cond.instanceMethod zy_A_count ∈ zW := zin 215 (by decide +kernel) rfl
theorem zw_186 : Cond.selects "AspectWalk$Aspects" zy_A_count zy_A_count ∈ zW := zin 216 (by decide +kernel) rfl
theorem zw_187 : Cond.code zy_A_count prog_2_method_2_code 1 (Option.some FieldType.int) ∈ zW := zin 217 (by decide +kernel) rfl
theorem zw_188 : Cond.methodLink "AspectWalk" 176 zy_A_nameOf ∈ zW := zin 218 (by decide +kernel) rfl
theorem zw_189 : Cond.instanceMethod zy_A_nameOf ∈ zW := zin 219 (by decide +kernel) rfl
theorem zw_190 : Cond.selects "AspectWalk$Aspects" zy_A_nameOf zy_A_nameOf ∈ zW := zin 220 (by decide +kernel) rfl
theorem zw_191 : Cond.code zy_A_nameOf prog_2_method_14_code 2 (Option.some FieldType.int) ∈ zW := zin 221 (by decide +kernel) rfl
theorem zw_192 : Cond.methodLink "AspectWalk" 217 zy_M_forget ∈ zW := zin 222 (by decide +kernel) rfl
theorem zw_193 : Cond.instanceMethod zy_M_forget ∈ zW := zin 223 (by decide +kernel) rfl
theorem zw_194 : Cond.selects "AspectWalk$Memory" zy_M_forget zy_M_forget ∈ zW := zin 224 (by decide +kernel) rfl
theorem zw_195 : Cond.code zy_M_forget prog_3_method_6_code 5 (Option.none : Option FieldType) ∈ zW := zin 225 (by decide +kernel) rfl
theorem zw_196 : Cond.methodLink "AspectWalk$Memory" 37 zy_M_pair ∈ zW := zin 226 (by decide +kernel) rfl
theorem zw_197 : Cond.static zy_M_pair ∈ zW := zin 227 (by decide +kernel) rfl
theorem zw_198 : Cond.code zy_M_pair prog_3_method_2_code 2 (Option.some FieldType.int) ∈ zW := zin 228 (by decide +kernel) rfl
theorem zw_199 : Cond.methodLink "AspectWalk$Memory" 45 zy_Ji_bitCount ∈ zW := zin 229 (by decide +kernel) rfl
theorem zw_200 : Cond.static zy_Ji_bitCount ∈ zW := zin 230 (by decide +kernel) rfl
theorem zw_201 : Cond.code zy_Ji_bitCount prog_10_method_49_code 1 (Option.some FieldType.int) ∈ zW := zin 231 (by decide +kernel) rfl
theorem zw_202 : Cond.constant "java/lang/Integer" 265 (1431655765 : Int32) ∈ zW := zin 232 (by decide +kernel) rfl
theorem zw_203 : Cond.constant "java/lang/Integer" 266 (858993459 : Int32) ∈ zW := zin 233 (by decide +kernel) rfl
theorem zw_204 : Cond.constant "java/lang/Integer" 267 (252645135 : Int32) ∈ zW := zin 234 (by decide +kernel) rfl
theorem zw_205 : Cond.methodLink "AspectWalk$Memory" 51 zy_M_makerOf ∈ zW := zin 235 (by decide +kernel) rfl
theorem zw_206 : Cond.instanceMethod zy_M_makerOf ∈ zW := zin 236 (by decide +kernel) rfl
theorem zw_207 : Cond.selects "AspectWalk$Memory" zy_M_makerOf zy_M_makerOf ∈ zW := zin 237 (by decide +kernel) rfl
theorem zw_208 : Cond.code zy_M_makerOf prog_3_method_10_code 3 (Option.some FieldType.int) ∈ zW := zin 238 (by decide +kernel) rfl
theorem zw_209 : Cond.methodLink "AspectWalkLaw" 42 zy_W_change ∈ zW := zin 239 (by decide +kernel) rfl
theorem zw_210 : Cond.instanceMethod zy_W_change ∈ zW := zin 240 (by decide +kernel) rfl
theorem zw_211 : Cond.selects "AspectWalk" zy_W_change zy_W_change ∈ zW := zin 241 (by decide +kernel) rfl
theorem zw_212 : Cond.code zy_W_change prog_1_method_6_code 5 (Option.some FieldType.boolean) ∈ zW := zin 242 (by decide +kernel) rfl
theorem zw_213 : Cond.methodLink "AspectWalk" 66 zy_T_assign ∈ zW := zin 243 (by decide +kernel) rfl
theorem zw_214 : Cond.instanceMethod zy_T_assign ∈ zW := zin 244 (by decide +kernel) rfl
theorem zw_215 : Cond.selects "AspectWalk$Targets" zy_T_assign zy_T_assign ∈ zW := zin 245 (by decide +kernel) rfl
theorem zw_216 : Cond.code zy_T_assign prog_4_method_8_code 6 (Option.some FieldType.boolean) ∈ zW := zin 246 (by decide +kernel) rfl
theorem zw_217 : Cond.methodLink "AspectWalkLaw" 47 zy_W_aspect ∈ zW := zin 247 (by decide +kernel) rfl
theorem zw_218 : Cond.instanceMethod zy_W_aspect ∈ zW := zin 248 (by decide +kernel) rfl
theorem zw_219 : Cond.selects "AspectWalk" zy_W_aspect zy_W_aspect ∈ zW := zin 249 (by decide +kernel) rfl
theorem zw_220 : Cond.code zy_W_aspect prog_1_method_7_code 6 (Option.some FieldType.int) ∈ zW := zin 250 (by decide +kernel) rfl
theorem zw_221 : Cond.methodLink "AspectWalk" 70 zy_A_open ∈ zW := zin 251 (by decide +kernel) rfl
theorem zw_222 : Cond.instanceMethod zy_A_open ∈ zW := zin 252 (by decide +kernel) rfl
theorem zw_223 : Cond.selects "AspectWalk$Aspects" zy_A_open zy_A_open ∈ zW := zin 253 (by decide +kernel) rfl
theorem zw_224 : Cond.code zy_A_open prog_2_method_4_code 7 (Option.some FieldType.int) ∈ zW := zin 254 (by decide +kernel) rfl
theorem zw_225 : Cond.methodLink "AspectWalkLaw" 52 zy_W_need ∈ zW := zin 255 (by decide +kernel) rfl
theorem zw_226 : Cond.instanceMethod zy_W_need ∈ zW := zin 256 (by decide +kernel) rfl
theorem zw_227 : Cond.selects "AspectWalk" zy_W_need zy_W_need ∈ zW := zin 257 (by decide +kernel) rfl
theorem zw_228 : Cond.code zy_W_need prog_1_method_8_code 3 (Option.some FieldType.int) ∈ zW := zin 258 (by decide +kernel) rfl
theorem zw_229 : Cond.methodLink "AspectWalk" 73 zy_A_has ∈ zW := zin 259 (by decide +kernel) rfl
theorem zw_230 : Cond.instanceMethod zy_A_has ∈ zW := zin 260 (by decide +kernel) rfl
theorem zw_231 : Cond.selects "AspectWalk$Aspects" zy_A_has zy_A_has ∈ zW := zin 261 (by decide +kernel) rfl
theorem zw_232 : Cond.code zy_A_has prog_2_method_3_code 2 (Option.some FieldType.boolean) ∈ zW := zin 262 (by decide +kernel) rfl
theorem zw_233 : Cond.methodLink "AspectWalk" 74 zy_A_needsDirectly ∈ zW := zin 263 (by decide +kernel) rfl
theorem zw_234 : Cond.instanceMethod zy_A_needsDirectly ∈ zW := zin 264 (by decide +kernel) rfl
theorem zw_235 : Cond.selects "AspectWalk$Aspects" zy_A_needsDirectly zy_A_needsDirectly ∈ zW := zin 265 (by decide +kernel) rfl
theorem zw_236 : Cond.code zy_A_needsDirectly prog_2_method_5_code 4 (Option.some FieldType.boolean) ∈ zW := zin 266 (by decide +kernel) rfl
theorem zw_237 : Cond.methodLink "AspectWalk$Aspects" 40 zy_A_needAt ∈ zW := zin 267 (by decide +kernel) rfl
theorem zw_238 : Cond.instanceMethod zy_A_needAt ∈ zW := zin 268 (by decide +kernel) rfl
theorem zw_239 : Cond.selects "AspectWalk$Aspects" zy_A_needAt zy_A_needAt ∈ zW := zin 269 (by decide +kernel) rfl
theorem zw_240 : Cond.code zy_A_needAt prog_2_method_9_code 3 (Option.some FieldType.int) ∈ zW := zin 270 (by decide +kernel) rfl
theorem zw_241 : Cond.methodLink "AspectWalk" 78 zy_A_needCount ∈ zW := zin 271 (by decide +kernel) rfl
theorem zw_242 : Cond.instanceMethod zy_A_needCount ∈ zW := zin 272 (by decide +kernel) rfl
theorem zw_243 : Cond.selects "AspectWalk$Aspects" zy_A_needCount zy_A_needCount ∈ zW := zin 273 (by decide +kernel) rfl
theorem zw_244 : Cond.code zy_A_needCount prog_2_method_8_code 2 (Option.some FieldType.int) ∈ zW := zin 274 (by decide +kernel) rfl
theorem zw_245 : Cond.methodLink "AspectWalk" 81 zy_A_leadsTo ∈ zW := zin 275 (by decide +kernel) rfl
theorem zw_246 : Cond.instanceMethod zy_A_leadsTo ∈ zW := zin 276 (by decide +kernel) rfl
theorem zw_247 : Cond.selects "AspectWalk$Aspects" zy_A_leadsTo zy_A_leadsTo ∈ zW := zin 277 (by decide +kernel) rfl
theorem zw_248 : Cond.code zy_A_leadsTo prog_2_method_7_code 3 (Option.some FieldType.boolean) ∈ zW := zin 278 (by decide +kernel) rfl
theorem zw_249 : Cond.methodLink "AspectWalk" 84 zy_A_appendNeed ∈ zW := zin 279 (by decide +kernel) rfl
theorem zw_250 : Cond.instanceMethod zy_A_appendNeed ∈ zW := zin 280 (by decide +kernel) rfl
theorem zw_251 : Cond.selects "AspectWalk$Aspects" zy_A_appendNeed zy_A_appendNeed ∈ zW := zin 281 (by decide +kernel) rfl
theorem zw_252 : Cond.code zy_A_appendNeed prog_2_method_6_code 4 (Option.none : Option FieldType) ∈ zW := zin 282 (by decide +kernel) rfl
theorem zw_253 : Cond.methodLink "AspectWalk$Aspects" 44 zy_A_leadsTo ∈ zW := zin 283 (by decide +kernel) rfl
theorem zw_254 : Cond.methodLink "AspectWalk" 88 zy_W_forgetAllOf ∈ zW := zin 284 (by decide +kernel) rfl
theorem zw_256 : Cond.instanceMethod zy_W_forgetAllOf ∈ zW := zin 286 (by decide +kernel) rfl
theorem zw_257 : Cond.code zy_W_forgetAllOf prog_1_method_28_code 4 (Option.none : Option FieldType) ∈ zW := zin 287 (by decide +kernel) rfl
theorem zw_258 : Cond.methodLink "AspectWalkLaw" 57 zy_W_apply ∈ zW := zin 288 (by decide +kernel) rfl
theorem zw_259 : Cond.instanceMethod zy_W_apply ∈ zW := zin 289 (by decide +kernel) rfl
theorem zw_260 : Cond.selects "AspectWalk" zy_W_apply zy_W_apply ∈ zW := zin 290 (by decide +kernel) rfl
theorem zw_261 : Cond.code zy_W_apply prog_1_method_9_code 4 (Option.some FieldType.int) ∈ zW := zin 291 (by decide +kernel) rfl
theorem zw_262 : Cond.methodLink "AspectWalk" 91 zy_W_isAsked ∈ zW := zin 292 (by decide +kernel) rfl
theorem zw_264 : Cond.instanceMethod zy_W_isAsked ∈ zW := zin 294 (by decide +kernel) rfl
theorem zw_265 : Cond.code zy_W_isAsked prog_1_method_16_code 4 (Option.some FieldType.boolean) ∈ zW := zin 295 (by decide +kernel) rfl
theorem zw_266 : Cond.methodLink "AspectWalk" 94 zy_W_doing ∈ zW := zin 296 (by decide +kernel) rfl
theorem zw_268 : Cond.instanceMethod zy_W_doing ∈ zW := zin 298 (by decide +kernel) rfl
theorem zw_269 : Cond.code zy_W_doing prog_1_method_17_code 8 (Option.some FieldType.int) ∈ zW := zin 299 (by decide +kernel) rfl
theorem zw_270 : Cond.methodLink "AspectWalk" 98 zy_M_known ∈ zW := zin 300 (by decide +kernel) rfl
theorem zw_271 : Cond.instanceMethod zy_M_known ∈ zW := zin 301 (by decide +kernel) rfl
theorem zw_272 : Cond.selects "AspectWalk$Memory" zy_M_known zy_M_known ∈ zW := zin 302 (by decide +kernel) rfl
theorem zw_273 : Cond.code zy_M_known prog_3_method_3_code 5 (Option.some FieldType.int) ∈ zW := zin 303 (by decide +kernel) rfl
theorem zw_274 : Cond.methodLink "AspectWalk" 129 zy_W_doNeeds ∈ zW := zin 304 (by decide +kernel) rfl
theorem zw_276 : Cond.instanceMethod zy_W_doNeeds ∈ zW := zin 306 (by decide +kernel) rfl
theorem zw_277 : Cond.code zy_W_doNeeds prog_1_method_18_code 7 (Option.some FieldType.int) ∈ zW := zin 307 (by decide +kernel) rfl
theorem zw_278 : Cond.methodLink "AspectWalk" 152 zy_A_needAt ∈ zW := zin 308 (by decide +kernel) rfl
theorem zw_279 : Cond.methodLink "AspectWalk" 132 zy_W_lacksProvider ∈ zW := zin 309 (by decide +kernel) rfl
theorem zw_281 : Cond.instanceMethod zy_W_lacksProvider ∈ zW := zin 311 (by decide +kernel) rfl
theorem zw_282 : Cond.code zy_W_lacksProvider prog_1_method_21_code 7 (Option.some FieldType.boolean) ∈ zW := zin 312 (by decide +kernel) rfl
theorem zw_283 : Cond.methodLink "AspectWalk" 167 zy_T_providersOf ∈ zW := zin 313 (by decide +kernel) rfl
theorem zw_284 : Cond.instanceMethod zy_T_providersOf ∈ zW := zin 314 (by decide +kernel) rfl
theorem zw_285 : Cond.selects "AspectWalk$Targets" zy_T_providersOf zy_T_providersOf ∈ zW := zin 315 (by decide +kernel) rfl
theorem zw_286 : Cond.code zy_T_providersOf prog_4_method_14_code 2 (Option.some FieldType.int) ∈ zW := zin 316 (by decide +kernel) rfl
theorem zw_287 : Cond.methodLink "AspectWalk" 170 zy_A_givesOf ∈ zW := zin 317 (by decide +kernel) rfl
theorem zw_288 : Cond.instanceMethod zy_A_givesOf ∈ zW := zin 318 (by decide +kernel) rfl
theorem zw_289 : Cond.selects "AspectWalk$Aspects" zy_A_givesOf zy_A_givesOf ∈ zW := zin 319 (by decide +kernel) rfl
theorem zw_290 : Cond.code zy_A_givesOf prog_2_method_13_code 2 (Option.some FieldType.int) ∈ zW := zin 320 (by decide +kernel) rfl
theorem zw_291 : Cond.methodLink "AspectWalk" 173 zy_A_wantsOf ∈ zW := zin 321 (by decide +kernel) rfl
theorem zw_292 : Cond.instanceMethod zy_A_wantsOf ∈ zW := zin 322 (by decide +kernel) rfl
theorem zw_293 : Cond.selects "AspectWalk$Aspects" zy_A_wantsOf zy_A_wantsOf ∈ zW := zin 323 (by decide +kernel) rfl
theorem zw_294 : Cond.code zy_A_wantsOf prog_2_method_12_code 2 (Option.some FieldType.int) ∈ zW := zin 324 (by decide +kernel) rfl
theorem zw_295 : Cond.methodLink "AspectWalk" 135 zy_M_keepPassed ∈ zW := zin 325 (by decide +kernel) rfl
theorem zw_296 : Cond.instanceMethod zy_M_keepPassed ∈ zW := zin 326 (by decide +kernel) rfl
theorem zw_297 : Cond.selects "AspectWalk$Memory" zy_M_keepPassed zy_M_keepPassed ∈ zW := zin 327 (by decide +kernel) rfl
theorem zw_298 : Cond.code zy_M_keepPassed prog_3_method_4_code 4 (Option.none : Option FieldType) ∈ zW := zin 328 (by decide +kernel) rfl
theorem zw_299 : Cond.methodLink "AspectWalk" 139 zy_W_doBelow ∈ zW := zin 329 (by decide +kernel) rfl
theorem zw_301 : Cond.instanceMethod zy_W_doBelow ∈ zW := zin 331 (by decide +kernel) rfl
theorem zw_302 : Cond.code zy_W_doBelow prog_1_method_19_code 9 (Option.some FieldType.int) ∈ zW := zin 332 (by decide +kernel) rfl
theorem zw_303 : Cond.methodLink "AspectWalk" 155 zy_W_lengthAlong ∈ zW := zin 333 (by decide +kernel) rfl
theorem zw_305 : Cond.instanceMethod zy_W_lengthAlong ∈ zW := zin 335 (by decide +kernel) rfl
theorem zw_306 : Cond.code zy_W_lengthAlong prog_1_method_20_code 4 (Option.some FieldType.int) ∈ zW := zin 336 (by decide +kernel) rfl
theorem zw_307 : Cond.methodLink "AspectWalk" 161 zy_A_goesAlong ∈ zW := zin 337 (by decide +kernel) rfl
theorem zw_308 : Cond.instanceMethod zy_A_goesAlong ∈ zW := zin 338 (by decide +kernel) rfl
theorem zw_309 : Cond.selects "AspectWalk$Aspects" zy_A_goesAlong zy_A_goesAlong ∈ zW := zin 339 (by decide +kernel) rfl
theorem zw_310 : Cond.code zy_A_goesAlong prog_2_method_10_code 3 (Option.some FieldType.boolean) ∈ zW := zin 340 (by decide +kernel) rfl
theorem zw_311 : Cond.methodLink "AspectWalk" 164 zy_T_rowLength ∈ zW := zin 341 (by decide +kernel) rfl
theorem zw_312 : Cond.instanceMethod zy_T_rowLength ∈ zW := zin 342 (by decide +kernel) rfl
theorem zw_313 : Cond.selects "AspectWalk$Targets" zy_T_rowLength zy_T_rowLength ∈ zW := zin 343 (by decide +kernel) rfl
theorem zw_314 : Cond.code zy_T_rowLength prog_4_method_11_code 3 (Option.some FieldType.int) ∈ zW := zin 344 (by decide +kernel) rfl
theorem zw_315 : Cond.methodLink "AspectWalk" 158 zy_T_rowAt ∈ zW := zin 345 (by decide +kernel) rfl
theorem zw_316 : Cond.instanceMethod zy_T_rowAt ∈ zW := zin 346 (by decide +kernel) rfl
theorem zw_317 : Cond.selects "AspectWalk$Targets" zy_T_rowAt zy_T_rowAt ∈ zW := zin 347 (by decide +kernel) rfl
theorem zw_318 : Cond.code zy_T_rowAt prog_4_method_12_code 4 (Option.some FieldType.int) ∈ zW := zin 348 (by decide +kernel) rfl
theorem zw_319 : Cond.methodLink "AspectWalk" 142 zy_W_makeOutput ∈ zW := zin 349 (by decide +kernel) rfl
theorem zw_321 : Cond.instanceMethod zy_W_makeOutput ∈ zW := zin 351 (by decide +kernel) rfl
theorem zw_322 : Cond.code zy_W_makeOutput prog_1_method_22_code 6 (Option.some FieldType.boolean) ∈ zW := zin 352 (by decide +kernel) rfl
theorem zw_323 : Cond.methodLink "AspectWalk" 126 zy_M_makerOf ∈ zW := zin 353 (by decide +kernel) rfl
theorem zw_324 : Cond.methodLink "AspectWalk" 179 zy_M_keepMaker ∈ zW := zin 354 (by decide +kernel) rfl
theorem zw_325 : Cond.instanceMethod zy_M_keepMaker ∈ zW := zin 355 (by decide +kernel) rfl
theorem zw_326 : Cond.selects "AspectWalk$Memory" zy_M_keepMaker zy_M_keepMaker ∈ zW := zin 356 (by decide +kernel) rfl
theorem zw_327 : Cond.code zy_M_keepMaker prog_3_method_12_code 5 (Option.none : Option FieldType) ∈ zW := zin 357 (by decide +kernel) rfl
theorem zw_328 : Cond.methodLink "AspectWalk" 183 zy_M_makerSettingOf ∈ zW := zin 358 (by decide +kernel) rfl
theorem zw_329 : Cond.instanceMethod zy_M_makerSettingOf ∈ zW := zin 359 (by decide +kernel) rfl
theorem zw_330 : Cond.selects "AspectWalk$Memory" zy_M_makerSettingOf zy_M_makerSettingOf ∈ zW := zin 360 (by decide +kernel) rfl
theorem zw_331 : Cond.code zy_M_makerSettingOf prog_3_method_11_code 3 (Option.some FieldType.int) ∈ zW := zin 361 (by decide +kernel) rfl
theorem zw_332 : Cond.methodLink "AspectWalk" 145 zy_W_joined ∈ zW := zin 362 (by decide +kernel) rfl
theorem zw_334 : Cond.instanceMethod zy_W_joined ∈ zW := zin 364 (by decide +kernel) rfl
theorem zw_335 : Cond.code zy_W_joined prog_1_method_23_code 9 (Option.some FieldType.long) ∈ zW := zin 365 (by decide +kernel) rfl
theorem zw_336 : Cond.methodLink "AspectWalk" 186 zy_A_kindOf ∈ zW := zin 366 (by decide +kernel) rfl
theorem zw_337 : Cond.instanceMethod zy_A_kindOf ∈ zW := zin 367 (by decide +kernel) rfl
theorem zw_338 : Cond.selects "AspectWalk$Aspects" zy_A_kindOf zy_A_kindOf ∈ zW := zin 368 (by decide +kernel) rfl
theorem zw_339 : Cond.code zy_A_kindOf prog_2_method_11_code 2 (Option.some FieldType.int) ∈ zW := zin 369 (by decide +kernel) rfl
theorem zw_340 : Cond.methodLink "AspectWalk" 189 zy_T_valueOf ∈ zW := zin 370 (by decide +kernel) rfl
theorem zw_341 : Cond.instanceMethod zy_T_valueOf ∈ zW := zin 371 (by decide +kernel) rfl
theorem zw_342 : Cond.selects "AspectWalk$Targets" zy_T_valueOf zy_T_valueOf ∈ zW := zin 372 (by decide +kernel) rfl
theorem zw_343 : Cond.code zy_T_valueOf prog_4_method_13_code 2 (Option.some FieldType.long) ∈ zW := zin 373 (by decide +kernel) rfl
theorem zw_344 : Cond.methodLink "AspectWalk" 193 zy_W_joinBelow ∈ zW := zin 374 (by decide +kernel) rfl
theorem zw_346 : Cond.instanceMethod zy_W_joinBelow ∈ zW := zin 376 (by decide +kernel) rfl
theorem zw_347 : Cond.code zy_W_joinBelow prog_1_method_24_code 13 (Option.some FieldType.long) ∈ zW := zin 377 (by decide +kernel) rfl
theorem zw_348 : Cond.methodLink "AspectWalk" 200 zy_W_joinPart ∈ zW := zin 378 (by decide +kernel) rfl
theorem zw_350 : Cond.instanceMethod zy_W_joinPart ∈ zW := zin 380 (by decide +kernel) rfl
theorem zw_351 : Cond.code zy_W_joinPart prog_1_method_26_code 9 (Option.some FieldType.long) ∈ zW := zin 381 (by decide +kernel) rfl
theorem zw_352 : Cond.methodLink "AspectWalk" 114 zy_M_resultOf ∈ zW := zin 382 (by decide +kernel) rfl
theorem zw_353 : Cond.instanceMethod zy_M_resultOf ∈ zW := zin 383 (by decide +kernel) rfl
theorem zw_354 : Cond.selects "AspectWalk$Memory" zy_M_resultOf zy_M_resultOf ∈ zW := zin 384 (by decide +kernel) rfl
theorem zw_355 : Cond.code zy_M_resultOf prog_3_method_7_code 4 (Option.some FieldType.long) ∈ zW := zin 385 (by decide +kernel) rfl
theorem zw_356 : Cond.methodLink "AspectWalk" 204 zy_Jm_max ∈ zW := zin 386 (by decide +kernel) rfl
theorem zw_357 : Cond.static zy_Jm_max ∈ zW := zin 387 (by decide +kernel) rfl
theorem zw_358 : Cond.code zy_Jm_max prog_11_method_66_code 4 (Option.some FieldType.long) ∈ zW := zin 388 (by decide +kernel) rfl
theorem zw_359 : Cond.constantLong "AspectWalk" 210 (31 : Int64) ∈ zW := zin 389 (by decide +kernel) rfl
theorem zw_360 : Cond.methodLink "AspectWalk" 197 zy_W_joinNeeds ∈ zW := zin 390 (by decide +kernel) rfl
theorem zw_362 : Cond.instanceMethod zy_W_joinNeeds ∈ zW := zin 392 (by decide +kernel) rfl
theorem zw_363 : Cond.code zy_W_joinNeeds prog_1_method_25_code 10 (Option.some FieldType.long) ∈ zW := zin 393 (by decide +kernel) rfl
theorem zw_364 : Cond.methodLink "AspectWalk" 148 zy_M_keepDone ∈ zW := zin 394 (by decide +kernel) rfl
theorem zw_365 : Cond.instanceMethod zy_M_keepDone ∈ zW := zin 395 (by decide +kernel) rfl
theorem zw_366 : Cond.selects "AspectWalk$Memory" zy_M_keepDone zy_M_keepDone ∈ zW := zin 396 (by decide +kernel) rfl
theorem zw_367 : Cond.code zy_M_keepDone prog_3_method_5_code 7 (Option.none : Option FieldType) ∈ zW := zin 397 (by decide +kernel) rfl
theorem zw_368 : Cond.methodLink "AspectWalkLaw" 62 zy_W_clash ∈ zW := zin 398 (by decide +kernel) rfl
theorem zw_369 : Cond.instanceMethod zy_W_clash ∈ zW := zin 399 (by decide +kernel) rfl
theorem zw_370 : Cond.selects "AspectWalk" zy_W_clash zy_W_clash ∈ zW := zin 400 (by decide +kernel) rfl
theorem zw_371 : Cond.code zy_W_clash prog_1_method_10_code 2 (Option.some FieldType.int) ∈ zW := zin 401 (by decide +kernel) rfl
theorem zw_372 : Cond.methodLink "AspectWalkLaw" 66 zy_W_state ∈ zW := zin 402 (by decide +kernel) rfl
theorem zw_373 : Cond.instanceMethod zy_W_state ∈ zW := zin 403 (by decide +kernel) rfl
theorem zw_374 : Cond.selects "AspectWalk" zy_W_state zy_W_state ∈ zW := zin 404 (by decide +kernel) rfl
theorem zw_375 : Cond.code zy_W_state prog_1_method_11_code 4 (Option.some FieldType.int) ∈ zW := zin 405 (by decide +kernel) rfl
theorem zw_376 : Cond.methodLink "AspectWalkLaw" 80 zy_W_worked ∈ zW := zin 406 (by decide +kernel) rfl
theorem zw_377 : Cond.instanceMethod zy_W_worked ∈ zW := zin 407 (by decide +kernel) rfl
theorem zw_378 : Cond.selects "AspectWalk" zy_W_worked zy_W_worked ∈ zW := zin 408 (by decide +kernel) rfl
theorem zw_379 : Cond.code zy_W_worked prog_1_method_13_code 3 (Option.some FieldType.int) ∈ zW := zin 409 (by decide +kernel) rfl
theorem zw_380 : Cond.methodLink "AspectWalk" 118 zy_M_timesDone ∈ zW := zin 410 (by decide +kernel) rfl
theorem zw_381 : Cond.instanceMethod zy_M_timesDone ∈ zW := zin 411 (by decide +kernel) rfl
theorem zw_382 : Cond.selects "AspectWalk$Memory" zy_M_timesDone zy_M_timesDone ∈ zW := zin 412 (by decide +kernel) rfl
theorem zw_383 : Cond.code zy_M_timesDone prog_3_method_8_code 3 (Option.some FieldType.int) ∈ zW := zin 413 (by decide +kernel) rfl
theorem zw_384 : Cond.methodLink "AspectWalkLaw" 84 zy_W_done ∈ zW := zin 414 (by decide +kernel) rfl
theorem zw_385 : Cond.instanceMethod zy_W_done ∈ zW := zin 415 (by decide +kernel) rfl
theorem zw_386 : Cond.selects "AspectWalk" zy_W_done zy_W_done ∈ zW := zin 416 (by decide +kernel) rfl
theorem zw_387 : Cond.code zy_W_done prog_1_method_14_code 1 (Option.some FieldType.int) ∈ zW := zin 417 (by decide +kernel) rfl
theorem zw_388 : Cond.methodLink "AspectWalk" 122 zy_M_doneCount ∈ zW := zin 418 (by decide +kernel) rfl
theorem zw_389 : Cond.instanceMethod zy_M_doneCount ∈ zW := zin 419 (by decide +kernel) rfl
theorem zw_390 : Cond.selects "AspectWalk$Memory" zy_M_doneCount zy_M_doneCount ∈ zW := zin 420 (by decide +kernel) rfl
theorem zw_391 : Cond.code zy_M_doneCount prog_3_method_9_code 1 (Option.some FieldType.int) ∈ zW := zin 421 (by decide +kernel) rfl
theorem zw_392 : Cond.methodLink "AspectWalkLaw" 88 zy_W_maker ∈ zW := zin 422 (by decide +kernel) rfl
theorem zw_393 : Cond.instanceMethod zy_W_maker ∈ zW := zin 423 (by decide +kernel) rfl
theorem zw_394 : Cond.selects "AspectWalk" zy_W_maker zy_W_maker ∈ zW := zin 424 (by decide +kernel) rfl
theorem zw_395 : Cond.code zy_W_maker prog_1_method_15_code 3 (Option.some FieldType.int) ∈ zW := zin 425 (by decide +kernel) rfl
theorem zw_396 : Cond.methodLink "AspectWalkLaw" 70 zy_L_result ∈ zW := zin 426 (by decide +kernel) rfl
theorem zw_397 : Cond.static zy_L_result ∈ zW := zin 427 (by decide +kernel) rfl
theorem zw_401 : Cond.methodLink "AspectWalkLaw" 7 zy_W_result ∈ zW := zin 431 (by decide +kernel) rfl
theorem zw_402 : Cond.instanceMethod zy_W_result ∈ zW := zin 432 (by decide +kernel) rfl
theorem zw_403 : Cond.selects "AspectWalk" zy_W_result zy_W_result ∈ zW := zin 433 (by decide +kernel) rfl
theorem zw_404 : Cond.code zy_W_result prog_1_method_12_code 5 (Option.some FieldType.long) ∈ zW := zin 434 (by decide +kernel) rfl
theorem zw_471 : Cond.arrayClass FieldType.byte ∈ zW := zin 501 (by decide +kernel) rfl
theorem zw_488 : Cond.classLink "AspectWalkLaw" 18 "AspectWalkModel" ∈ zW := zin 518 (by decide +kernel) rfl
theorem zw_489 : Cond.instantiable "AspectWalkModel" 26 ∈ zW := zin 519 (by decide +kernel) rfl
theorem zw_490 : Cond.methodLink "AspectWalkLaw" 20 zy_R_init ∈ zW := zin 520 (by decide +kernel) rfl
theorem zw_491 : Cond.instanceMethod zy_R_init ∈ zW := zin 521 (by decide +kernel) rfl
theorem zw_492 : Cond.code zy_R_init prog_6_method_1_code 2 (Option.none : Option FieldType) ∈ zW := zin 522 (by decide +kernel) rfl
theorem zw_493 : Cond.methodLink "AspectWalkModel" 1 objectInit ∈ zW := zin 523 (by decide +kernel) rfl
theorem zw_494 : Cond.fieldLink "AspectWalkModel" 72 "AspectWalkModel" "thrown" "I" ∈ zW := zin 524 (by decide +kernel) rfl
theorem zw_495 : Cond.fieldLink "AspectWalkModel" 76 "AspectWalkModel" "targets" "I" ∈ zW := zin 525 (by decide +kernel) rfl
theorem zw_496 : Cond.fieldLink "AspectWalkModel" 7 "AspectWalkModel" "standsFor" "[I" ∈ zW := zin 526 (by decide +kernel) rfl
theorem zw_497 : Cond.fieldLink "AspectWalkModel" 13 "AspectWalkModel" "value" "[J" ∈ zW := zin 527 (by decide +kernel) rfl
theorem zw_498 : Cond.fieldLink "AspectWalkModel" 17 "AspectWalkModel" "providers" "[I" ∈ zW := zin 528 (by decide +kernel) rfl
theorem zw_499 : Cond.fieldLink "AspectWalkModel" 20 "AspectWalkModel" "rowSize" "[I" ∈ zW := zin 529 (by decide +kernel) rfl
theorem zw_500 : Cond.fieldLink "AspectWalkModel" 23 "AspectWalkModel" "row" "[I" ∈ zW := zin 530 (by decide +kernel) rfl
theorem zw_501 : Cond.fieldLink "AspectWalkModel" 79 "AspectWalkModel" "aspects" "I" ∈ zW := zin 531 (by decide +kernel) rfl
theorem zw_502 : Cond.fieldLink "AspectWalkModel" 26 "AspectWalkModel" "kind" "[I" ∈ zW := zin 532 (by decide +kernel) rfl
theorem zw_503 : Cond.fieldLink "AspectWalkModel" 29 "AspectWalkModel" "along" "[I" ∈ zW := zin 533 (by decide +kernel) rfl
theorem zw_504 : Cond.fieldLink "AspectWalkModel" 32 "AspectWalkModel" "wants" "[I" ∈ zW := zin 534 (by decide +kernel) rfl
theorem zw_505 : Cond.fieldLink "AspectWalkModel" 35 "AspectWalkModel" "gives" "[I" ∈ zW := zin 535 (by decide +kernel) rfl
theorem zw_506 : Cond.fieldLink "AspectWalkModel" 38 "AspectWalkModel" "nameOf" "[I" ∈ zW := zin 536 (by decide +kernel) rfl
theorem zw_507 : Cond.fieldLink "AspectWalkModel" 41 "AspectWalkModel" "needMany" "[I" ∈ zW := zin 537 (by decide +kernel) rfl
theorem zw_508 : Cond.fieldLink "AspectWalkModel" 44 "AspectWalkModel" "needs" "[I" ∈ zW := zin 538 (by decide +kernel) rfl
theorem zw_509 : Cond.fieldLink "AspectWalkModel" 47 "AspectWalkModel" "known" "[I" ∈ zW := zin 539 (by decide +kernel) rfl
theorem zw_510 : Cond.fieldLink "AspectWalkModel" 50 "AspectWalkModel" "results" "[J" ∈ zW := zin 540 (by decide +kernel) rfl
theorem zw_511 : Cond.fieldLink "AspectWalkModel" 53 "AspectWalkModel" "times" "[I" ∈ zW := zin 541 (by decide +kernel) rfl
theorem zw_512 : Cond.fieldLink "AspectWalkModel" 56 "AspectWalkModel" "madeBy" "[I" ∈ zW := zin 542 (by decide +kernel) rfl
theorem zw_513 : Cond.fieldLink "AspectWalkModel" 59 "AspectWalkModel" "clashTold" "[I" ∈ zW := zin 543 (by decide +kernel) rfl
theorem zw_514 : Cond.fieldLink "AspectWalkModel" 117 "AspectWalkModel" "heap" "I" ∈ zW := zin 544 (by decide +kernel) rfl
theorem zw_515 : Cond.fieldLink "AspectWalkModel" 62 "AspectWalkModel" "heapTarget" "[I" ∈ zW := zin 545 (by decide +kernel) rfl
theorem zw_516 : Cond.fieldLink "AspectWalkModel" 65 "AspectWalkModel" "heapAspect" "[I" ∈ zW := zin 546 (by decide +kernel) rfl
theorem zw_517 : Cond.fieldLink "AspectWalkModel" 120 "AspectWalkModel" "setting" "I" ∈ zW := zin 547 (by decide +kernel) rfl
theorem zw_518 : Cond.fieldLink "AspectWalkModel" 145 "AspectWalkModel" "clashes" "Z" ∈ zW := zin 548 (by decide +kernel) rfl
theorem zw_519 : Cond.fieldLink "AspectWalkModel" 68 "AspectWalkModel" "touched" "[Z" ∈ zW := zin 549 (by decide +kernel) rfl
theorem zw_573 : Cond.arrayClass FieldType.boolean ∈ zW := zin 603 (by decide +kernel) rfl
theorem zw_574 : Cond.methodLink "AspectWalkLaw" 76 zy_R_thrown ∈ zW := zin 604 (by decide +kernel) rfl
theorem zw_575 : Cond.instanceMethod zy_R_thrown ∈ zW := zin 605 (by decide +kernel) rfl
theorem zw_576 : Cond.selects "AspectWalkModel" zy_R_thrown zy_R_thrown ∈ zW := zin 606 (by decide +kernel) rfl
theorem zw_577 : Cond.code zy_R_thrown prog_6_method_2_code 1 (Option.some FieldType.int) ∈ zW := zin 607 (by decide +kernel) rfl
theorem zw_578 : Cond.methodLink "AspectWalkLaw" 27 zy_R_target ∈ zW := zin 608 (by decide +kernel) rfl
theorem zw_579 : Cond.instanceMethod zy_R_target ∈ zW := zin 609 (by decide +kernel) rfl
theorem zw_580 : Cond.selects "AspectWalkModel" zy_R_target zy_R_target ∈ zW := zin 610 (by decide +kernel) rfl
theorem zw_581 : Cond.code zy_R_target prog_6_method_7_code 4 (Option.some FieldType.int) ∈ zW := zin 611 (by decide +kernel) rfl
theorem zw_582 : Cond.methodLink "AspectWalkLaw" 32 zy_R_alias ∈ zW := zin 612 (by decide +kernel) rfl
theorem zw_583 : Cond.instanceMethod zy_R_alias ∈ zW := zin 613 (by decide +kernel) rfl
theorem zw_584 : Cond.selects "AspectWalkModel" zy_R_alias zy_R_alias ∈ zW := zin 614 (by decide +kernel) rfl
theorem zw_585 : Cond.code zy_R_alias prog_6_method_8_code 2 (Option.some FieldType.int) ∈ zW := zin 615 (by decide +kernel) rfl
theorem zw_586 : Cond.methodLink "AspectWalkModel" 82 zy_R_isTarget ∈ zW := zin 616 (by decide +kernel) rfl
theorem zw_588 : Cond.instanceMethod zy_R_isTarget ∈ zW := zin 618 (by decide +kernel) rfl
theorem zw_589 : Cond.code zy_R_isTarget prog_6_method_3_code 2 (Option.some FieldType.boolean) ∈ zW := zin 619 (by decide +kernel) rfl
theorem zw_590 : Cond.methodLink "AspectWalkLaw" 36 zy_R_stands ∈ zW := zin 620 (by decide +kernel) rfl
theorem zw_591 : Cond.instanceMethod zy_R_stands ∈ zW := zin 621 (by decide +kernel) rfl
theorem zw_592 : Cond.selects "AspectWalkModel" zy_R_stands zy_R_stands ∈ zW := zin 622 (by decide +kernel) rfl
theorem zw_593 : Cond.code zy_R_stands prog_6_method_9_code 2 (Option.some FieldType.int) ∈ zW := zin 623 (by decide +kernel) rfl
theorem zw_594 : Cond.methodLink "AspectWalkLaw" 41 zy_R_add ∈ zW := zin 624 (by decide +kernel) rfl
theorem zw_595 : Cond.instanceMethod zy_R_add ∈ zW := zin 625 (by decide +kernel) rfl
theorem zw_596 : Cond.selects "AspectWalkModel" zy_R_add zy_R_add ∈ zW := zin 626 (by decide +kernel) rfl
theorem zw_597 : Cond.code zy_R_add prog_6_method_14_code 4 (Option.some FieldType.boolean) ∈ zW := zin 627 (by decide +kernel) rfl
theorem zw_598 : Cond.methodLink "AspectWalkModel" 93 zy_R_isOwn ∈ zW := zin 628 (by decide +kernel) rfl
theorem zw_600 : Cond.instanceMethod zy_R_isOwn ∈ zW := zin 630 (by decide +kernel) rfl
theorem zw_601 : Cond.code zy_R_isOwn prog_6_method_10_code 2 (Option.some FieldType.boolean) ∈ zW := zin 631 (by decide +kernel) rfl
theorem zw_602 : Cond.methodLink "AspectWalkModel" 96 zy_R_forgetFrom ∈ zW := zin 632 (by decide +kernel) rfl
theorem zw_604 : Cond.instanceMethod zy_R_forgetFrom ∈ zW := zin 634 (by decide +kernel) rfl
theorem zw_605 : Cond.code zy_R_forgetFrom prog_6_method_13_code 3 (Option.none : Option FieldType) ∈ zW := zin 635 (by decide +kernel) rfl
theorem zw_606 : Cond.methodLink "AspectWalkModel" 86 zy_R_hasTouched ∈ zW := zin 636 (by decide +kernel) rfl
theorem zw_608 : Cond.instanceMethod zy_R_hasTouched ∈ zW := zin 638 (by decide +kernel) rfl
theorem zw_609 : Cond.code zy_R_hasTouched prog_6_method_11_code 5 (Option.some FieldType.boolean) ∈ zW := zin 639 (by decide +kernel) rfl
theorem zw_610 : Cond.methodLink "AspectWalkModel" 89 zy_R_forgetTarget ∈ zW := zin 640 (by decide +kernel) rfl
theorem zw_612 : Cond.instanceMethod zy_R_forgetTarget ∈ zW := zin 642 (by decide +kernel) rfl
theorem zw_613 : Cond.code zy_R_forgetTarget prog_6_method_12_code 3 (Option.none : Option FieldType) ∈ zW := zin 643 (by decide +kernel) rfl
theorem zw_614 : Cond.methodLink "AspectWalkLaw" 46 zy_R_change ∈ zW := zin 644 (by decide +kernel) rfl
theorem zw_615 : Cond.instanceMethod zy_R_change ∈ zW := zin 645 (by decide +kernel) rfl
theorem zw_616 : Cond.selects "AspectWalkModel" zy_R_change zy_R_change ∈ zW := zin 646 (by decide +kernel) rfl
theorem zw_617 : Cond.code zy_R_change prog_6_method_15_code 6 (Option.some FieldType.boolean) ∈ zW := zin 647 (by decide +kernel) rfl
theorem zw_618 : Cond.methodLink "AspectWalkLaw" 51 zy_R_aspect ∈ zW := zin 648 (by decide +kernel) rfl
theorem zw_619 : Cond.instanceMethod zy_R_aspect ∈ zW := zin 649 (by decide +kernel) rfl
theorem zw_620 : Cond.selects "AspectWalkModel" zy_R_aspect zy_R_aspect ∈ zW := zin 650 (by decide +kernel) rfl
theorem zw_621 : Cond.code zy_R_aspect prog_6_method_16_code 6 (Option.some FieldType.int) ∈ zW := zin 651 (by decide +kernel) rfl
theorem zw_622 : Cond.methodLink "AspectWalkLaw" 56 zy_R_need ∈ zW := zin 652 (by decide +kernel) rfl
theorem zw_623 : Cond.instanceMethod zy_R_need ∈ zW := zin 653 (by decide +kernel) rfl
theorem zw_624 : Cond.selects "AspectWalkModel" zy_R_need zy_R_need ∈ zW := zin 654 (by decide +kernel) rfl
theorem zw_625 : Cond.code zy_R_need prog_6_method_20_code 5 (Option.some FieldType.int) ∈ zW := zin 655 (by decide +kernel) rfl
theorem zw_626 : Cond.methodLink "AspectWalkModel" 107 zy_R_isAspect ∈ zW := zin 656 (by decide +kernel) rfl
theorem zw_628 : Cond.instanceMethod zy_R_isAspect ∈ zW := zin 658 (by decide +kernel) rfl
theorem zw_629 : Cond.code zy_R_isAspect prog_6_method_4_code 2 (Option.some FieldType.boolean) ∈ zW := zin 659 (by decide +kernel) rfl
theorem zw_630 : Cond.methodLink "AspectWalkModel" 99 zy_R_hasNeed ∈ zW := zin 660 (by decide +kernel) rfl
theorem zw_632 : Cond.instanceMethod zy_R_hasNeed ∈ zW := zin 662 (by decide +kernel) rfl
theorem zw_633 : Cond.code zy_R_hasNeed prog_6_method_17_code 5 (Option.some FieldType.boolean) ∈ zW := zin 663 (by decide +kernel) rfl
theorem zw_634 : Cond.methodLink "AspectWalkModel" 110 zy_R_neederBits ∈ zW := zin 664 (by decide +kernel) rfl
theorem zw_636 : Cond.instanceMethod zy_R_neederBits ∈ zW := zin 666 (by decide +kernel) rfl
theorem zw_637 : Cond.code zy_R_neederBits prog_6_method_18_code 6 (Option.some FieldType.int) ∈ zW := zin 667 (by decide +kernel) rfl
theorem zw_638 : Cond.methodLink "AspectWalkModel" 114 zy_R_forgetAspect ∈ zW := zin 668 (by decide +kernel) rfl
theorem zw_640 : Cond.instanceMethod zy_R_forgetAspect ∈ zW := zin 670 (by decide +kernel) rfl
theorem zw_641 : Cond.code zy_R_forgetAspect prog_6_method_19_code 5 (Option.none : Option FieldType) ∈ zW := zin 671 (by decide +kernel) rfl
theorem zw_642 : Cond.methodLink "AspectWalkModel" 103 zy_R_placeOf ∈ zW := zin 672 (by decide +kernel) rfl
theorem zw_643 : Cond.static zy_R_placeOf ∈ zW := zin 673 (by decide +kernel) rfl
theorem zw_644 : Cond.code zy_R_placeOf prog_6_method_6_code 3 (Option.some FieldType.int) ∈ zW := zin 674 (by decide +kernel) rfl
theorem zw_645 : Cond.methodLink "AspectWalkLaw" 61 zy_R_apply ∈ zW := zin 675 (by decide +kernel) rfl
theorem zw_646 : Cond.instanceMethod zy_R_apply ∈ zW := zin 676 (by decide +kernel) rfl
theorem zw_647 : Cond.selects "AspectWalkModel" zy_R_apply zy_R_apply ∈ zW := zin 677 (by decide +kernel) rfl
theorem zw_648 : Cond.code zy_R_apply prog_6_method_29_code 5 (Option.some FieldType.int) ∈ zW := zin 678 (by decide +kernel) rfl
theorem zw_649 : Cond.methodLink "AspectWalkModel" 153 zy_R_isSetting ∈ zW := zin 679 (by decide +kernel) rfl
theorem zw_650 : Cond.static zy_R_isSetting ∈ zW := zin 680 (by decide +kernel) rfl
theorem zw_651 : Cond.code zy_R_isSetting prog_6_method_5_code 1 (Option.some FieldType.boolean) ∈ zW := zin 681 (by decide +kernel) rfl
theorem zw_652 : Cond.methodLink "AspectWalkModel" 123 zy_R_push ∈ zW := zin 682 (by decide +kernel) rfl
theorem zw_654 : Cond.instanceMethod zy_R_push ∈ zW := zin 684 (by decide +kernel) rfl
theorem zw_655 : Cond.code zy_R_push prog_6_method_21_code 3 (Option.none : Option FieldType) ∈ zW := zin 685 (by decide +kernel) rfl
theorem zw_656 : Cond.methodLink "AspectWalkModel" 156 zy_R_goOn ∈ zW := zin 686 (by decide +kernel) rfl
theorem zw_658 : Cond.instanceMethod zy_R_goOn ∈ zW := zin 688 (by decide +kernel) rfl
theorem zw_659 : Cond.code zy_R_goOn prog_6_method_28_code 4 (Option.none : Option FieldType) ∈ zW := zin 689 (by decide +kernel) rfl
theorem zw_660 : Cond.methodLink "AspectWalkModel" 133 zy_R_waitsForNeed ∈ zW := zin 690 (by decide +kernel) rfl
theorem zw_662 : Cond.instanceMethod zy_R_waitsForNeed ∈ zW := zin 692 (by decide +kernel) rfl
theorem zw_663 : Cond.code zy_R_waitsForNeed prog_6_method_22_code 5 (Option.some FieldType.boolean) ∈ zW := zin 693 (by decide +kernel) rfl
theorem zw_664 : Cond.methodLink "AspectWalkModel" 136 zy_R_hasAllWanted ∈ zW := zin 694 (by decide +kernel) rfl
theorem zw_666 : Cond.instanceMethod zy_R_hasAllWanted ∈ zW := zin 696 (by decide +kernel) rfl
theorem zw_667 : Cond.code zy_R_hasAllWanted prog_6_method_23_code 6 (Option.some FieldType.boolean) ∈ zW := zin 697 (by decide +kernel) rfl
theorem zw_668 : Cond.methodLink "AspectWalkModel" 139 zy_R_waitsForTarget ∈ zW := zin 698 (by decide +kernel) rfl
theorem zw_670 : Cond.instanceMethod zy_R_waitsForTarget ∈ zW := zin 700 (by decide +kernel) rfl
theorem zw_671 : Cond.code zy_R_waitsForTarget prog_6_method_24_code 6 (Option.some FieldType.boolean) ∈ zW := zin 701 (by decide +kernel) rfl
theorem zw_672 : Cond.methodLink "AspectWalkModel" 142 zy_R_makes ∈ zW := zin 702 (by decide +kernel) rfl
theorem zw_674 : Cond.instanceMethod zy_R_makes ∈ zW := zin 704 (by decide +kernel) rfl
theorem zw_675 : Cond.code zy_R_makes prog_6_method_27_code 5 (Option.some FieldType.boolean) ∈ zW := zin 705 (by decide +kernel) rfl
theorem zw_676 : Cond.methodLink "AspectWalkModel" 149 zy_R_resultOf ∈ zW := zin 706 (by decide +kernel) rfl
theorem zw_678 : Cond.instanceMethod zy_R_resultOf ∈ zW := zin 708 (by decide +kernel) rfl
theorem zw_679 : Cond.code zy_R_resultOf prog_6_method_26_code 8 (Option.some FieldType.long) ∈ zW := zin 709 (by decide +kernel) rfl
theorem zw_680 : Cond.methodLink "AspectWalkModel" 129 zy_R_with ∈ zW := zin 710 (by decide +kernel) rfl
theorem zw_681 : Cond.static zy_R_with ∈ zW := zin 711 (by decide +kernel) rfl
theorem zw_682 : Cond.code zy_R_with prog_6_method_25_code 5 (Option.some FieldType.long) ∈ zW := zin 712 (by decide +kernel) rfl
theorem zw_683 : Cond.constantLong "AspectWalkModel" 127 (31 : Int64) ∈ zW := zin 713 (by decide +kernel) rfl
theorem zw_684 : Cond.methodLink "AspectWalkLaw" 65 zy_R_clash ∈ zW := zin 714 (by decide +kernel) rfl
theorem zw_685 : Cond.instanceMethod zy_R_clash ∈ zW := zin 715 (by decide +kernel) rfl
theorem zw_686 : Cond.selects "AspectWalkModel" zy_R_clash zy_R_clash ∈ zW := zin 716 (by decide +kernel) rfl
theorem zw_687 : Cond.code zy_R_clash prog_6_method_30_code 2 (Option.some FieldType.int) ∈ zW := zin 717 (by decide +kernel) rfl
theorem zw_688 : Cond.methodLink "AspectWalkLaw" 69 zy_R_state ∈ zW := zin 718 (by decide +kernel) rfl
theorem zw_689 : Cond.instanceMethod zy_R_state ∈ zW := zin 719 (by decide +kernel) rfl
theorem zw_690 : Cond.selects "AspectWalkModel" zy_R_state zy_R_state ∈ zW := zin 720 (by decide +kernel) rfl
theorem zw_691 : Cond.code zy_R_state prog_6_method_31_code 4 (Option.some FieldType.int) ∈ zW := zin 721 (by decide +kernel) rfl
theorem zw_692 : Cond.methodLink "AspectWalkLaw" 75 zy_R_result ∈ zW := zin 722 (by decide +kernel) rfl
theorem zw_693 : Cond.instanceMethod zy_R_result ∈ zW := zin 723 (by decide +kernel) rfl
theorem zw_694 : Cond.selects "AspectWalkModel" zy_R_result zy_R_result ∈ zW := zin 724 (by decide +kernel) rfl
theorem zw_695 : Cond.code zy_R_result prog_6_method_32_code 4 (Option.some FieldType.long) ∈ zW := zin 725 (by decide +kernel) rfl
theorem zw_696 : Cond.methodLink "AspectWalkLaw" 83 zy_R_worked ∈ zW := zin 726 (by decide +kernel) rfl
theorem zw_697 : Cond.instanceMethod zy_R_worked ∈ zW := zin 727 (by decide +kernel) rfl
theorem zw_698 : Cond.selects "AspectWalkModel" zy_R_worked zy_R_worked ∈ zW := zin 728 (by decide +kernel) rfl
theorem zw_699 : Cond.code zy_R_worked prog_6_method_33_code 3 (Option.some FieldType.int) ∈ zW := zin 729 (by decide +kernel) rfl
theorem zw_700 : Cond.methodLink "AspectWalkLaw" 87 zy_R_done ∈ zW := zin 730 (by decide +kernel) rfl
theorem zw_701 : Cond.instanceMethod zy_R_done ∈ zW := zin 731 (by decide +kernel) rfl
theorem zw_702 : Cond.selects "AspectWalkModel" zy_R_done zy_R_done ∈ zW := zin 732 (by decide +kernel) rfl
theorem zw_703 : Cond.code zy_R_done prog_6_method_34_code 3 (Option.some FieldType.int) ∈ zW := zin 733 (by decide +kernel) rfl
theorem zw_704 : Cond.methodLink "AspectWalkLaw" 91 zy_R_maker ∈ zW := zin 734 (by decide +kernel) rfl
theorem zw_705 : Cond.instanceMethod zy_R_maker ∈ zW := zin 735 (by decide +kernel) rfl
theorem zw_706 : Cond.selects "AspectWalkModel" zy_R_maker zy_R_maker ∈ zW := zin 736 (by decide +kernel) rfl
theorem zw_707 : Cond.code zy_R_maker prog_6_method_35_code 4 (Option.some FieldType.int) ∈ zW := zin 737 (by decide +kernel) rfl
theorem zw_708 : Cond.constantLong "AspectWalkLaw" 21 (4294967295 : Int64) ∈ zW := zin 738 (by decide +kernel) rfl
theorem zsel_W_forgetFrom : Cond.selects zR_W zy_W_forgetFrom zy_W_forgetFrom ∈ zW := zin 0 (by decide +kernel) rfl
theorem zsel_W_forgetAllOf : Cond.selects zR_W zy_W_forgetAllOf zy_W_forgetAllOf ∈ zW := zin 1 (by decide +kernel) rfl
theorem zsel_W_isAsked : Cond.selects zR_W zy_W_isAsked zy_W_isAsked ∈ zW := zin 2 (by decide +kernel) rfl
theorem zsel_W_doing : Cond.selects zR_W zy_W_doing zy_W_doing ∈ zW := zin 3 (by decide +kernel) rfl
theorem zsel_W_doNeeds : Cond.selects zR_W zy_W_doNeeds zy_W_doNeeds ∈ zW := zin 4 (by decide +kernel) rfl
theorem zsel_W_lacksProvider : Cond.selects zR_W zy_W_lacksProvider zy_W_lacksProvider ∈ zW := zin 5 (by decide +kernel) rfl
theorem zsel_W_doBelow : Cond.selects zR_W zy_W_doBelow zy_W_doBelow ∈ zW := zin 6 (by decide +kernel) rfl
theorem zsel_W_lengthAlong : Cond.selects zR_W zy_W_lengthAlong zy_W_lengthAlong ∈ zW := zin 7 (by decide +kernel) rfl
theorem zsel_W_makeOutput : Cond.selects zR_W zy_W_makeOutput zy_W_makeOutput ∈ zW := zin 8 (by decide +kernel) rfl
theorem zsel_W_joined : Cond.selects zR_W zy_W_joined zy_W_joined ∈ zW := zin 9 (by decide +kernel) rfl
theorem zsel_W_joinBelow : Cond.selects zR_W zy_W_joinBelow zy_W_joinBelow ∈ zW := zin 10 (by decide +kernel) rfl
theorem zsel_W_joinPart : Cond.selects zR_W zy_W_joinPart zy_W_joinPart ∈ zW := zin 11 (by decide +kernel) rfl
theorem zsel_W_joinNeeds : Cond.selects zR_W zy_W_joinNeeds zy_W_joinNeeds ∈ zW := zin 12 (by decide +kernel) rfl
theorem zsel_R_isTarget : Cond.selects zR_R zy_R_isTarget zy_R_isTarget ∈ zW := zin 14 (by decide +kernel) rfl
theorem zsel_R_isOwn : Cond.selects zR_R zy_R_isOwn zy_R_isOwn ∈ zW := zin 15 (by decide +kernel) rfl
theorem zsel_R_forgetFrom : Cond.selects zR_R zy_R_forgetFrom zy_R_forgetFrom ∈ zW := zin 16 (by decide +kernel) rfl
theorem zsel_R_hasTouched : Cond.selects zR_R zy_R_hasTouched zy_R_hasTouched ∈ zW := zin 17 (by decide +kernel) rfl
theorem zsel_R_forgetTarget : Cond.selects zR_R zy_R_forgetTarget zy_R_forgetTarget ∈ zW := zin 18 (by decide +kernel) rfl
theorem zsel_R_isAspect : Cond.selects zR_R zy_R_isAspect zy_R_isAspect ∈ zW := zin 19 (by decide +kernel) rfl
theorem zsel_R_hasNeed : Cond.selects zR_R zy_R_hasNeed zy_R_hasNeed ∈ zW := zin 20 (by decide +kernel) rfl
theorem zsel_R_neederBits : Cond.selects zR_R zy_R_neederBits zy_R_neederBits ∈ zW := zin 21 (by decide +kernel) rfl
theorem zsel_R_forgetAspect : Cond.selects zR_R zy_R_forgetAspect zy_R_forgetAspect ∈ zW := zin 22 (by decide +kernel) rfl
theorem zsel_R_push : Cond.selects zR_R zy_R_push zy_R_push ∈ zW := zin 23 (by decide +kernel) rfl
theorem zsel_R_goOn : Cond.selects zR_R zy_R_goOn zy_R_goOn ∈ zW := zin 24 (by decide +kernel) rfl
theorem zsel_R_waitsForNeed : Cond.selects zR_R zy_R_waitsForNeed zy_R_waitsForNeed ∈ zW := zin 25 (by decide +kernel) rfl
theorem zsel_R_hasAllWanted : Cond.selects zR_R zy_R_hasAllWanted zy_R_hasAllWanted ∈ zW := zin 26 (by decide +kernel) rfl
theorem zsel_R_waitsForTarget : Cond.selects zR_R zy_R_waitsForTarget zy_R_waitsForTarget ∈ zW := zin 27 (by decide +kernel) rfl
theorem zsel_R_makes : Cond.selects zR_R zy_R_makes zy_R_makes ∈ zW := zin 28 (by decide +kernel) rfl
theorem zsel_R_resultOf : Cond.selects zR_R zy_R_resultOf zy_R_resultOf ∈ zW := zin 29 (by decide +kernel) rfl
end
section
theorem zd_W_init_0 : decode zb_W_init 0 = .ok (.aload_n 0, 1) := by decide +kernel
theorem zd_W_init_1 : decode zb_W_init 1 = .ok (.invokespecial 3, 3) := by decide +kernel
theorem zd_W_init_4 : decode zb_W_init 4 = .ok (.aload_n 0, 1) := by decide +kernel
theorem zd_W_init_5 : decode zb_W_init 5 = .ok (.new 9, 3) := by decide +kernel
theorem zd_W_init_8 : decode zb_W_init 8 = .ok (.dup, 1) := by decide +kernel
theorem zd_W_init_9 : decode zb_W_init 9 = .ok (.invokespecial 11, 3) := by decide +kernel
theorem zd_W_init_12 : decode zb_W_init 12 = .ok (.putfield 12, 3) := by decide +kernel
theorem zd_W_init_15 : decode zb_W_init 15 = .ok (.aload_n 0, 1) := by decide +kernel
theorem zd_W_init_16 : decode zb_W_init 16 = .ok (.new 16, 3) := by decide +kernel
theorem zd_W_init_19 : decode zb_W_init 19 = .ok (.dup, 1) := by decide +kernel
theorem zd_W_init_20 : decode zb_W_init 20 = .ok (.invokespecial 18, 3) := by decide +kernel
theorem zd_W_init_23 : decode zb_W_init 23 = .ok (.putfield 19, 3) := by decide +kernel
theorem zd_W_init_26 : decode zb_W_init 26 = .ok (.aload_n 0, 1) := by decide +kernel
theorem zd_W_init_27 : decode zb_W_init 27 = .ok (.new 23, 3) := by decide +kernel
theorem zd_W_init_30 : decode zb_W_init 30 = .ok (.dup, 1) := by decide +kernel
theorem zd_W_init_31 : decode zb_W_init 31 = .ok (.invokespecial 25, 3) := by decide +kernel
theorem zd_W_init_34 : decode zb_W_init 34 = .ok (.putfield 26, 3) := by decide +kernel
theorem zd_W_init_37 : decode zb_W_init 37 = .ok (.aload_n 0, 1) := by decide +kernel
theorem zd_W_init_38 : decode zb_W_init 38 = .ok (.iconst 5, 1) := by decide +kernel
theorem zd_W_init_39 : decode zb_W_init 39 = .ok (.newarray .int, 2) := by decide +kernel
theorem zd_W_init_41 : decode zb_W_init 41 = .ok (.putfield 30, 3) := by decide +kernel
theorem zd_W_init_44 : decode zb_W_init 44 = .ok (.aload_n 0, 1) := by decide +kernel
theorem zd_W_init_45 : decode zb_W_init 45 = .ok (.getfield 30, 3) := by decide +kernel
theorem zd_W_init_48 : decode zb_W_init 48 = .ok (.iconst (-1), 1) := by decide +kernel
theorem zd_W_init_49 : decode zb_W_init 49 = .ok (.invokestatic 34, 3) := by decide +kernel
theorem zd_W_init_52 : decode zb_W_init 52 = .ok (.return_, 1) := by decide +kernel
theorem zd_T_init_0 : decode zb_T_init 0 = .ok (.aload_n 0, 1) := by decide +kernel
theorem zd_T_init_1 : decode zb_T_init 1 = .ok (.invokespecial 3, 3) := by decide +kernel
theorem zd_T_init_4 : decode zb_T_init 4 = .ok (.aload_n 0, 1) := by decide +kernel
theorem zd_T_init_5 : decode zb_T_init 5 = .ok (.bipush 20, 2) := by decide +kernel
theorem zd_T_init_7 : decode zb_T_init 7 = .ok (.newarray .long, 2) := by decide +kernel
theorem zd_T_init_9 : decode zb_T_init 9 = .ok (.putfield 9, 3) := by decide +kernel
theorem zd_T_init_12 : decode zb_T_init 12 = .ok (.aload_n 0, 1) := by decide +kernel
theorem zd_T_init_13 : decode zb_T_init 13 = .ok (.bipush 20, 2) := by decide +kernel
theorem zd_T_init_15 : decode zb_T_init 15 = .ok (.newarray .int, 2) := by decide +kernel
theorem zd_T_init_17 : decode zb_T_init 17 = .ok (.putfield 15, 3) := by decide +kernel
theorem zd_T_init_20 : decode zb_T_init 20 = .ok (.aload_n 0, 1) := by decide +kernel
theorem zd_T_init_21 : decode zb_T_init 21 = .ok (.bipush 20, 2) := by decide +kernel
theorem zd_T_init_23 : decode zb_T_init 23 = .ok (.newarray .int, 2) := by decide +kernel
theorem zd_T_init_25 : decode zb_T_init 25 = .ok (.putfield 19, 3) := by decide +kernel
theorem zd_T_init_28 : decode zb_T_init 28 = .ok (.aload_n 0, 1) := by decide +kernel
theorem zd_T_init_29 : decode zb_T_init 29 = .ok (.sipush 240, 3) := by decide +kernel
theorem zd_T_init_32 : decode zb_T_init 32 = .ok (.newarray .int, 2) := by decide +kernel
theorem zd_T_init_34 : decode zb_T_init 34 = .ok (.putfield 22, 3) := by decide +kernel
theorem zd_T_init_37 : decode zb_T_init 37 = .ok (.aload_n 0, 1) := by decide +kernel
theorem zd_T_init_38 : decode zb_T_init 38 = .ok (.bipush 60, 2) := by decide +kernel
theorem zd_T_init_40 : decode zb_T_init 40 = .ok (.newarray .int, 2) := by decide +kernel
theorem zd_T_init_42 : decode zb_T_init 42 = .ok (.putfield 25, 3) := by decide +kernel
theorem zd_T_init_45 : decode zb_T_init 45 = .ok (.aload_n 0, 1) := by decide +kernel
theorem zd_T_init_46 : decode zb_T_init 46 = .ok (.bipush 20, 2) := by decide +kernel
theorem zd_T_init_48 : decode zb_T_init 48 = .ok (.newarray .int, 2) := by decide +kernel
theorem zd_T_init_50 : decode zb_T_init 50 = .ok (.putfield 28, 3) := by decide +kernel
theorem zd_T_init_53 : decode zb_T_init 53 = .ok (.return_, 1) := by decide +kernel
theorem zd_A_init_0 : decode zb_A_init 0 = .ok (.aload_n 0, 1) := by decide +kernel
theorem zd_A_init_1 : decode zb_A_init 1 = .ok (.invokespecial 3, 3) := by decide +kernel
theorem zd_A_init_4 : decode zb_A_init 4 = .ok (.aload_n 0, 1) := by decide +kernel
theorem zd_A_init_5 : decode zb_A_init 5 = .ok (.bipush 8, 2) := by decide +kernel
theorem zd_A_init_7 : decode zb_A_init 7 = .ok (.newarray .int, 2) := by decide +kernel
theorem zd_A_init_9 : decode zb_A_init 9 = .ok (.putfield 9, 3) := by decide +kernel
theorem zd_A_init_12 : decode zb_A_init 12 = .ok (.aload_n 0, 1) := by decide +kernel
theorem zd_A_init_13 : decode zb_A_init 13 = .ok (.bipush 8, 2) := by decide +kernel
theorem zd_A_init_15 : decode zb_A_init 15 = .ok (.newarray .int, 2) := by decide +kernel
theorem zd_A_init_17 : decode zb_A_init 17 = .ok (.putfield 15, 3) := by decide +kernel
theorem zd_A_init_20 : decode zb_A_init 20 = .ok (.aload_n 0, 1) := by decide +kernel
theorem zd_A_init_21 : decode zb_A_init 21 = .ok (.bipush 8, 2) := by decide +kernel
theorem zd_A_init_23 : decode zb_A_init 23 = .ok (.newarray .int, 2) := by decide +kernel
theorem zd_A_init_25 : decode zb_A_init 25 = .ok (.putfield 18, 3) := by decide +kernel
theorem zd_A_init_28 : decode zb_A_init 28 = .ok (.aload_n 0, 1) := by decide +kernel
theorem zd_A_init_29 : decode zb_A_init 29 = .ok (.bipush 8, 2) := by decide +kernel
theorem zd_A_init_31 : decode zb_A_init 31 = .ok (.newarray .int, 2) := by decide +kernel
theorem zd_A_init_33 : decode zb_A_init 33 = .ok (.putfield 21, 3) := by decide +kernel
theorem zd_A_init_36 : decode zb_A_init 36 = .ok (.aload_n 0, 1) := by decide +kernel
theorem zd_A_init_37 : decode zb_A_init 37 = .ok (.bipush 8, 2) := by decide +kernel
theorem zd_A_init_39 : decode zb_A_init 39 = .ok (.newarray .int, 2) := by decide +kernel
theorem zd_A_init_41 : decode zb_A_init 41 = .ok (.putfield 24, 3) := by decide +kernel
theorem zd_A_init_44 : decode zb_A_init 44 = .ok (.aload_n 0, 1) := by decide +kernel
theorem zd_A_init_45 : decode zb_A_init 45 = .ok (.bipush 24, 2) := by decide +kernel
theorem zd_A_init_47 : decode zb_A_init 47 = .ok (.newarray .int, 2) := by decide +kernel
theorem zd_A_init_49 : decode zb_A_init 49 = .ok (.putfield 27, 3) := by decide +kernel
theorem zd_A_init_52 : decode zb_A_init 52 = .ok (.aload_n 0, 1) := by decide +kernel
theorem zd_A_init_53 : decode zb_A_init 53 = .ok (.bipush 8, 2) := by decide +kernel
theorem zd_A_init_55 : decode zb_A_init 55 = .ok (.newarray .int, 2) := by decide +kernel
theorem zd_A_init_57 : decode zb_A_init 57 = .ok (.putfield 30, 3) := by decide +kernel
theorem zd_A_init_60 : decode zb_A_init 60 = .ok (.aload_n 0, 1) := by decide +kernel
theorem zd_A_init_61 : decode zb_A_init 61 = .ok (.bipush 8, 2) := by decide +kernel
theorem zd_A_init_63 : decode zb_A_init 63 = .ok (.newarray .int, 2) := by decide +kernel
theorem zd_A_init_65 : decode zb_A_init 65 = .ok (.putfield 33, 3) := by decide +kernel
theorem zd_A_init_68 : decode zb_A_init 68 = .ok (.return_, 1) := by decide +kernel
theorem zd_M_init_0 : decode zb_M_init 0 = .ok (.aload_n 0, 1) := by decide +kernel
theorem zd_M_init_1 : decode zb_M_init 1 = .ok (.invokespecial 3, 3) := by decide +kernel
theorem zd_M_init_4 : decode zb_M_init 4 = .ok (.aload_n 0, 1) := by decide +kernel
theorem zd_M_init_5 : decode zb_M_init 5 = .ok (.sipush 160, 3) := by decide +kernel
theorem zd_M_init_8 : decode zb_M_init 8 = .ok (.newarray .int, 2) := by decide +kernel
theorem zd_M_init_10 : decode zb_M_init 10 = .ok (.putfield 11, 3) := by decide +kernel
theorem zd_M_init_13 : decode zb_M_init 13 = .ok (.aload_n 0, 1) := by decide +kernel
theorem zd_M_init_14 : decode zb_M_init 14 = .ok (.sipush 160, 3) := by decide +kernel
theorem zd_M_init_17 : decode zb_M_init 17 = .ok (.newarray .int, 2) := by decide +kernel
theorem zd_M_init_19 : decode zb_M_init 19 = .ok (.putfield 15, 3) := by decide +kernel
theorem zd_M_init_22 : decode zb_M_init 22 = .ok (.aload_n 0, 1) := by decide +kernel
theorem zd_M_init_23 : decode zb_M_init 23 = .ok (.sipush 160, 3) := by decide +kernel
theorem zd_M_init_26 : decode zb_M_init 26 = .ok (.newarray .int, 2) := by decide +kernel
theorem zd_M_init_28 : decode zb_M_init 28 = .ok (.putfield 18, 3) := by decide +kernel
theorem zd_M_init_31 : decode zb_M_init 31 = .ok (.aload_n 0, 1) := by decide +kernel
theorem zd_M_init_32 : decode zb_M_init 32 = .ok (.sipush 2560, 3) := by decide +kernel
theorem zd_M_init_35 : decode zb_M_init 35 = .ok (.newarray .long, 2) := by decide +kernel
theorem zd_M_init_37 : decode zb_M_init 37 = .ok (.putfield 21, 3) := by decide +kernel
theorem zd_M_init_40 : decode zb_M_init 40 = .ok (.aload_n 0, 1) := by decide +kernel
theorem zd_M_init_41 : decode zb_M_init 41 = .ok (.sipush 200, 3) := by decide +kernel
theorem zd_M_init_44 : decode zb_M_init 44 = .ok (.newarray .int, 2) := by decide +kernel
theorem zd_M_init_46 : decode zb_M_init 46 = .ok (.putfield 25, 3) := by decide +kernel
theorem zd_M_init_49 : decode zb_M_init 49 = .ok (.aload_n 0, 1) := by decide +kernel
theorem zd_M_init_50 : decode zb_M_init 50 = .ok (.sipush 200, 3) := by decide +kernel
theorem zd_M_init_53 : decode zb_M_init 53 = .ok (.newarray .int, 2) := by decide +kernel
theorem zd_M_init_55 : decode zb_M_init 55 = .ok (.putfield 28, 3) := by decide +kernel
theorem zd_M_init_58 : decode zb_M_init 58 = .ok (.aload_n 0, 1) := by decide +kernel
theorem zd_M_init_59 : decode zb_M_init 59 = .ok (.getfield 25, 3) := by decide +kernel
theorem zd_M_init_62 : decode zb_M_init 62 = .ok (.iconst (-1), 1) := by decide +kernel
theorem zd_M_init_63 : decode zb_M_init 63 = .ok (.invokestatic 31, 3) := by decide +kernel
theorem zd_M_init_66 : decode zb_M_init 66 = .ok (.return_, 1) := by decide +kernel
theorem zd_Ja_fill_0 : decode zb_Ja_fill 0 = .ok (.iconst 0, 1) := by decide +kernel
theorem zd_Ja_fill_1 : decode zb_Ja_fill 1 = .ok (.istore_n 2, 1) := by decide +kernel
theorem zd_Ja_fill_2 : decode zb_Ja_fill 2 = .ok (.aload_n 0, 1) := by decide +kernel
theorem zd_Ja_fill_3 : decode zb_Ja_fill 3 = .ok (.arraylength, 1) := by decide +kernel
theorem zd_Ja_fill_4 : decode zb_Ja_fill 4 = .ok (.istore_n 3, 1) := by decide +kernel
theorem zd_Ja_fill_5 : decode zb_Ja_fill 5 = .ok (.iload_n 2, 1) := by decide +kernel
theorem zd_Ja_fill_6 : decode zb_Ja_fill 6 = .ok (.iload_n 3, 1) := by decide +kernel
theorem zd_Ja_fill_7 : decode zb_Ja_fill 7 = .ok (.if_icmp .ge 13, 3) := by decide +kernel
theorem zd_Ja_fill_10 : decode zb_Ja_fill 10 = .ok (.aload_n 0, 1) := by decide +kernel
theorem zd_Ja_fill_11 : decode zb_Ja_fill 11 = .ok (.iload_n 2, 1) := by decide +kernel
theorem zd_Ja_fill_12 : decode zb_Ja_fill 12 = .ok (.iload_n 1, 1) := by decide +kernel
theorem zd_Ja_fill_13 : decode zb_Ja_fill 13 = .ok (.iastore, 1) := by decide +kernel
theorem zd_Ja_fill_14 : decode zb_Ja_fill 14 = .ok (.iinc 2 1, 3) := by decide +kernel
theorem zd_Ja_fill_17 : decode zb_Ja_fill 17 = .ok (.goto (-12), 3) := by decide +kernel
theorem zd_Ja_fill_20 : decode zb_Ja_fill 20 = .ok (.return_, 1) := by decide +kernel
theorem zd_W_target_0 : decode zb_W_target 0 = .ok (.aload_n 0, 1) := by decide +kernel
theorem zd_W_target_1 : decode zb_W_target 1 = .ok (.getfield 12, 3) := by decide +kernel
theorem zd_W_target_4 : decode zb_W_target 4 = .ok (.lload_n 1, 1) := by decide +kernel
theorem zd_W_target_5 : decode zb_W_target 5 = .ok (.iload_n 3, 1) := by decide +kernel
theorem zd_W_target_6 : decode zb_W_target 6 = .ok (.sipush 255, 3) := by decide +kernel
theorem zd_W_target_9 : decode zb_W_target 9 = .ok (.iand, 1) := by decide +kernel
theorem zd_W_target_10 : decode zb_W_target 10 = .ok (.invokevirtual 40, 3) := by decide +kernel
theorem zd_W_target_13 : decode zb_W_target 13 = .ok (.ireturn, 1) := by decide +kernel
theorem zd_T_open_0 : decode zb_T_open 0 = .ok (.aload_n 0, 1) := by decide +kernel
theorem zd_T_open_1 : decode zb_T_open 1 = .ok (.getfield 31, 3) := by decide +kernel
theorem zd_T_open_4 : decode zb_T_open 4 = .ok (.bipush 20, 2) := by decide +kernel
theorem zd_T_open_6 : decode zb_T_open 6 = .ok (.if_icmp .lt 5, 3) := by decide +kernel
theorem zd_T_open_9 : decode zb_T_open 9 = .ok (.iconst (-1), 1) := by decide +kernel
theorem zd_T_open_10 : decode zb_T_open 10 = .ok (.ireturn, 1) := by decide +kernel
theorem zd_T_open_11 : decode zb_T_open 11 = .ok (.aload_n 0, 1) := by decide +kernel
theorem zd_T_open_12 : decode zb_T_open 12 = .ok (.getfield 31, 3) := by decide +kernel
theorem zd_T_open_15 : decode zb_T_open 15 = .ok (.istore 4, 2) := by decide +kernel
theorem zd_T_open_17 : decode zb_T_open 17 = .ok (.aload_n 0, 1) := by decide +kernel
theorem zd_T_open_18 : decode zb_T_open 18 = .ok (.getfield 9, 3) := by decide +kernel
theorem zd_T_open_21 : decode zb_T_open 21 = .ok (.iload 4, 2) := by decide +kernel
theorem zd_T_open_23 : decode zb_T_open 23 = .ok (.lload_n 1, 1) := by decide +kernel
theorem zd_T_open_24 : decode zb_T_open 24 = .ok (.lastore, 1) := by decide +kernel
theorem zd_T_open_25 : decode zb_T_open 25 = .ok (.aload_n 0, 1) := by decide +kernel
theorem zd_T_open_26 : decode zb_T_open 26 = .ok (.getfield 15, 3) := by decide +kernel
theorem zd_T_open_29 : decode zb_T_open 29 = .ok (.iload 4, 2) := by decide +kernel
theorem zd_T_open_31 : decode zb_T_open 31 = .ok (.iload_n 3, 1) := by decide +kernel
theorem zd_T_open_32 : decode zb_T_open 32 = .ok (.iastore, 1) := by decide +kernel
theorem zd_T_open_33 : decode zb_T_open 33 = .ok (.aload_n 0, 1) := by decide +kernel
theorem zd_T_open_34 : decode zb_T_open 34 = .ok (.getfield 19, 3) := by decide +kernel
theorem zd_T_open_37 : decode zb_T_open 37 = .ok (.iload 4, 2) := by decide +kernel
theorem zd_T_open_39 : decode zb_T_open 39 = .ok (.iload 4, 2) := by decide +kernel
theorem zd_T_open_41 : decode zb_T_open 41 = .ok (.iastore, 1) := by decide +kernel
theorem zd_T_open_42 : decode zb_T_open 42 = .ok (.aload_n 0, 1) := by decide +kernel
theorem zd_T_open_43 : decode zb_T_open 43 = .ok (.getfield 28, 3) := by decide +kernel
theorem zd_T_open_46 : decode zb_T_open 46 = .ok (.iload 4, 2) := by decide +kernel
theorem zd_T_open_48 : decode zb_T_open 48 = .ok (.iconst 1, 1) := by decide +kernel
theorem zd_T_open_49 : decode zb_T_open 49 = .ok (.iload 4, 2) := by decide +kernel
theorem zd_T_open_51 : decode zb_T_open 51 = .ok (.ishl, 1) := by decide +kernel
theorem zd_T_open_52 : decode zb_T_open 52 = .ok (.iastore, 1) := by decide +kernel
theorem zd_T_open_53 : decode zb_T_open 53 = .ok (.aload_n 0, 1) := by decide +kernel
theorem zd_T_open_54 : decode zb_T_open 54 = .ok (.dup, 1) := by decide +kernel
theorem zd_T_open_55 : decode zb_T_open 55 = .ok (.getfield 31, 3) := by decide +kernel
theorem zd_T_open_58 : decode zb_T_open 58 = .ok (.iconst 1, 1) := by decide +kernel
theorem zd_T_open_59 : decode zb_T_open 59 = .ok (.iadd, 1) := by decide +kernel
theorem zd_T_open_60 : decode zb_T_open 60 = .ok (.putfield 31, 3) := by decide +kernel
theorem zd_T_open_63 : decode zb_T_open 63 = .ok (.iload 4, 2) := by decide +kernel
theorem zd_T_open_65 : decode zb_T_open 65 = .ok (.ireturn, 1) := by decide +kernel
theorem zd_W_alias_0 : decode zb_W_alias 0 = .ok (.aload_n 0, 1) := by decide +kernel
theorem zd_W_alias_1 : decode zb_W_alias 1 = .ok (.getfield 12, 3) := by decide +kernel
theorem zd_W_alias_4 : decode zb_W_alias 4 = .ok (.iload_n 1, 1) := by decide +kernel
theorem zd_W_alias_5 : decode zb_W_alias 5 = .ok (.invokevirtual 44, 3) := by decide +kernel
theorem zd_W_alias_8 : decode zb_W_alias 8 = .ok (.ifCond .eq 14, 3) := by decide +kernel
theorem zd_W_alias_11 : decode zb_W_alias 11 = .ok (.aload_n 0, 1) := by decide +kernel
theorem zd_W_alias_12 : decode zb_W_alias 12 = .ok (.getfield 12, 3) := by decide +kernel
theorem zd_W_alias_15 : decode zb_W_alias 15 = .ok (.iload_n 1, 1) := by decide +kernel
theorem zd_W_alias_16 : decode zb_W_alias 16 = .ok (.invokevirtual 48, 3) := by decide +kernel
theorem zd_W_alias_19 : decode zb_W_alias 19 = .ok (.goto 4, 3) := by decide +kernel
theorem zd_W_alias_22 : decode zb_W_alias 22 = .ok (.iconst (-1), 1) := by decide +kernel
theorem zd_W_alias_23 : decode zb_W_alias 23 = .ok (.ireturn, 1) := by decide +kernel
theorem zd_T_has_0 : decode zb_T_has 0 = .ok (.iload_n 1, 1) := by decide +kernel
theorem zd_T_has_1 : decode zb_T_has 1 = .ok (.ifCond .lt 15, 3) := by decide +kernel
theorem zd_T_has_4 : decode zb_T_has 4 = .ok (.iload_n 1, 1) := by decide +kernel
theorem zd_T_has_5 : decode zb_T_has 5 = .ok (.aload_n 0, 1) := by decide +kernel
theorem zd_T_has_6 : decode zb_T_has 6 = .ok (.getfield 31, 3) := by decide +kernel
theorem zd_T_has_9 : decode zb_T_has 9 = .ok (.if_icmp .ge 7, 3) := by decide +kernel
theorem zd_T_has_12 : decode zb_T_has 12 = .ok (.iconst 1, 1) := by decide +kernel
theorem zd_T_has_13 : decode zb_T_has 13 = .ok (.goto 4, 3) := by decide +kernel
theorem zd_T_has_16 : decode zb_T_has 16 = .ok (.iconst 0, 1) := by decide +kernel
theorem zd_T_has_17 : decode zb_T_has 17 = .ok (.ireturn, 1) := by decide +kernel
theorem zd_T_openAlias_0 : decode zb_T_openAlias 0 = .ok (.aload_n 0, 1) := by decide +kernel
theorem zd_T_openAlias_1 : decode zb_T_openAlias 1 = .ok (.getfield 31, 3) := by decide +kernel
theorem zd_T_openAlias_4 : decode zb_T_openAlias 4 = .ok (.bipush 20, 2) := by decide +kernel
theorem zd_T_openAlias_6 : decode zb_T_openAlias 6 = .ok (.if_icmp .lt 5, 3) := by decide +kernel
theorem zd_T_openAlias_9 : decode zb_T_openAlias 9 = .ok (.iconst (-1), 1) := by decide +kernel
theorem zd_T_openAlias_10 : decode zb_T_openAlias 10 = .ok (.ireturn, 1) := by decide +kernel
theorem zd_T_openAlias_11 : decode zb_T_openAlias 11 = .ok (.aload_n 0, 1) := by decide +kernel
theorem zd_T_openAlias_12 : decode zb_T_openAlias 12 = .ok (.getfield 31, 3) := by decide +kernel
theorem zd_T_openAlias_15 : decode zb_T_openAlias 15 = .ok (.istore_n 2, 1) := by decide +kernel
theorem zd_T_openAlias_16 : decode zb_T_openAlias 16 = .ok (.aload_n 0, 1) := by decide +kernel
theorem zd_T_openAlias_17 : decode zb_T_openAlias 17 = .ok (.getfield 19, 3) := by decide +kernel
theorem zd_T_openAlias_20 : decode zb_T_openAlias 20 = .ok (.iload_n 2, 1) := by decide +kernel
theorem zd_T_openAlias_21 : decode zb_T_openAlias 21 = .ok (.aload_n 0, 1) := by decide +kernel
theorem zd_T_openAlias_22 : decode zb_T_openAlias 22 = .ok (.getfield 19, 3) := by decide +kernel
theorem zd_T_openAlias_25 : decode zb_T_openAlias 25 = .ok (.iload_n 1, 1) := by decide +kernel
theorem zd_T_openAlias_26 : decode zb_T_openAlias 26 = .ok (.iaload, 1) := by decide +kernel
theorem zd_T_openAlias_27 : decode zb_T_openAlias 27 = .ok (.iastore, 1) := by decide +kernel
theorem zd_T_openAlias_28 : decode zb_T_openAlias 28 = .ok (.aload_n 0, 1) := by decide +kernel
theorem zd_T_openAlias_29 : decode zb_T_openAlias 29 = .ok (.dup, 1) := by decide +kernel
theorem zd_T_openAlias_30 : decode zb_T_openAlias 30 = .ok (.getfield 31, 3) := by decide +kernel
theorem zd_T_openAlias_33 : decode zb_T_openAlias 33 = .ok (.iconst 1, 1) := by decide +kernel
theorem zd_T_openAlias_34 : decode zb_T_openAlias 34 = .ok (.iadd, 1) := by decide +kernel
theorem zd_T_openAlias_35 : decode zb_T_openAlias 35 = .ok (.putfield 31, 3) := by decide +kernel
theorem zd_T_openAlias_38 : decode zb_T_openAlias 38 = .ok (.iload_n 2, 1) := by decide +kernel
theorem zd_T_openAlias_39 : decode zb_T_openAlias 39 = .ok (.ireturn, 1) := by decide +kernel
theorem zd_W_stands_0 : decode zb_W_stands 0 = .ok (.aload_n 0, 1) := by decide +kernel
theorem zd_W_stands_1 : decode zb_W_stands 1 = .ok (.getfield 12, 3) := by decide +kernel
theorem zd_W_stands_4 : decode zb_W_stands 4 = .ok (.iload_n 1, 1) := by decide +kernel
theorem zd_W_stands_5 : decode zb_W_stands 5 = .ok (.invokevirtual 44, 3) := by decide +kernel
theorem zd_W_stands_8 : decode zb_W_stands 8 = .ok (.ifCond .eq 14, 3) := by decide +kernel
theorem zd_W_stands_11 : decode zb_W_stands 11 = .ok (.aload_n 0, 1) := by decide +kernel
theorem zd_W_stands_12 : decode zb_W_stands 12 = .ok (.getfield 12, 3) := by decide +kernel
theorem zd_W_stands_15 : decode zb_W_stands 15 = .ok (.iload_n 1, 1) := by decide +kernel
theorem zd_W_stands_16 : decode zb_W_stands 16 = .ok (.invokevirtual 52, 3) := by decide +kernel
theorem zd_W_stands_19 : decode zb_W_stands 19 = .ok (.goto 4, 3) := by decide +kernel
theorem zd_W_stands_22 : decode zb_W_stands 22 = .ok (.iconst (-1), 1) := by decide +kernel
theorem zd_W_stands_23 : decode zb_W_stands 23 = .ok (.ireturn, 1) := by decide +kernel
theorem zd_T_end_0 : decode zb_T_end 0 = .ok (.aload_n 0, 1) := by decide +kernel
theorem zd_T_end_1 : decode zb_T_end 1 = .ok (.getfield 19, 3) := by decide +kernel
theorem zd_T_end_4 : decode zb_T_end 4 = .ok (.iload_n 1, 1) := by decide +kernel
theorem zd_T_end_5 : decode zb_T_end 5 = .ok (.iaload, 1) := by decide +kernel
theorem zd_T_end_6 : decode zb_T_end 6 = .ok (.ireturn, 1) := by decide +kernel
theorem zd_W_add_0 : decode zb_W_add 0 = .ok (.aload_n 0, 1) := by decide +kernel
theorem zd_W_add_1 : decode zb_W_add 1 = .ok (.getfield 12, 3) := by decide +kernel
theorem zd_W_add_4 : decode zb_W_add 4 = .ok (.iload_n 1, 1) := by decide +kernel
theorem zd_W_add_5 : decode zb_W_add 5 = .ok (.invokevirtual 44, 3) := by decide +kernel
theorem zd_W_add_8 : decode zb_W_add 8 = .ok (.ifCond .eq 25, 3) := by decide +kernel
theorem zd_W_add_11 : decode zb_W_add 11 = .ok (.aload_n 0, 1) := by decide +kernel
theorem zd_W_add_12 : decode zb_W_add 12 = .ok (.getfield 12, 3) := by decide +kernel
theorem zd_W_add_15 : decode zb_W_add 15 = .ok (.iload_n 3, 1) := by decide +kernel
theorem zd_W_add_16 : decode zb_W_add 16 = .ok (.invokevirtual 44, 3) := by decide +kernel
theorem zd_W_add_19 : decode zb_W_add 19 = .ok (.ifCond .eq 14, 3) := by decide +kernel
theorem zd_W_add_22 : decode zb_W_add 22 = .ok (.aload_n 0, 1) := by decide +kernel
theorem zd_W_add_23 : decode zb_W_add 23 = .ok (.getfield 12, 3) := by decide +kernel
theorem zd_W_add_26 : decode zb_W_add 26 = .ok (.iload_n 1, 1) := by decide +kernel
theorem zd_W_add_27 : decode zb_W_add 27 = .ok (.invokevirtual 55, 3) := by decide +kernel
theorem zd_W_add_30 : decode zb_W_add 30 = .ok (.ifCond .eq 5, 3) := by decide +kernel
theorem zd_W_add_33 : decode zb_W_add 33 = .ok (.iconst 0, 1) := by decide +kernel
theorem zd_W_add_34 : decode zb_W_add 34 = .ok (.ireturn, 1) := by decide +kernel
theorem zd_W_add_35 : decode zb_W_add 35 = .ok (.iload_n 2, 1) := by decide +kernel
theorem zd_W_add_36 : decode zb_W_add 36 = .ok (.ifCond .lt 13, 3) := by decide +kernel
theorem zd_W_add_39 : decode zb_W_add 39 = .ok (.iload_n 2, 1) := by decide +kernel
theorem zd_W_add_40 : decode zb_W_add 40 = .ok (.iconst 3, 1) := by decide +kernel
theorem zd_W_add_41 : decode zb_W_add 41 = .ok (.if_icmp .ge 8, 3) := by decide +kernel
theorem zd_W_add_44 : decode zb_W_add 44 = .ok (.iload_n 3, 1) := by decide +kernel
theorem zd_W_add_45 : decode zb_W_add 45 = .ok (.iload_n 1, 1) := by decide +kernel
theorem zd_W_add_46 : decode zb_W_add 46 = .ok (.if_icmp .lt 5, 3) := by decide +kernel
theorem zd_W_add_49 : decode zb_W_add 49 = .ok (.iconst 0, 1) := by decide +kernel
theorem zd_W_add_50 : decode zb_W_add 50 = .ok (.ireturn, 1) := by decide +kernel
theorem zd_W_add_51 : decode zb_W_add 51 = .ok (.aload_n 0, 1) := by decide +kernel
theorem zd_W_add_52 : decode zb_W_add 52 = .ok (.getfield 12, 3) := by decide +kernel
theorem zd_W_add_55 : decode zb_W_add 55 = .ok (.iload_n 1, 1) := by decide +kernel
theorem zd_W_add_56 : decode zb_W_add 56 = .ok (.iload_n 2, 1) := by decide +kernel
theorem zd_W_add_57 : decode zb_W_add 57 = .ok (.aload_n 0, 1) := by decide +kernel
theorem zd_W_add_58 : decode zb_W_add 58 = .ok (.getfield 12, 3) := by decide +kernel
theorem zd_W_add_61 : decode zb_W_add 61 = .ok (.iload_n 3, 1) := by decide +kernel
theorem zd_W_add_62 : decode zb_W_add 62 = .ok (.invokevirtual 52, 3) := by decide +kernel
theorem zd_W_add_65 : decode zb_W_add 65 = .ok (.invokevirtual 58, 3) := by decide +kernel
theorem zd_W_add_68 : decode zb_W_add 68 = .ok (.ifCond .ne 5, 3) := by decide +kernel
theorem zd_W_add_71 : decode zb_W_add 71 = .ok (.iconst 0, 1) := by decide +kernel
theorem zd_W_add_72 : decode zb_W_add 72 = .ok (.ireturn, 1) := by decide +kernel
theorem zd_W_add_73 : decode zb_W_add 73 = .ok (.aload_n 0, 1) := by decide +kernel
theorem zd_W_add_74 : decode zb_W_add 74 = .ok (.iload_n 1, 1) := by decide +kernel
theorem zd_W_add_75 : decode zb_W_add 75 = .ok (.invokevirtual 62, 3) := by decide +kernel
theorem zd_W_add_78 : decode zb_W_add 78 = .ok (.iconst 1, 1) := by decide +kernel
theorem zd_W_add_79 : decode zb_W_add 79 = .ok (.ireturn, 1) := by decide +kernel
theorem zd_T_isAlias_0 : decode zb_T_isAlias 0 = .ok (.aload_n 0, 1) := by decide +kernel
theorem zd_T_isAlias_1 : decode zb_T_isAlias 1 = .ok (.getfield 19, 3) := by decide +kernel
theorem zd_T_isAlias_4 : decode zb_T_isAlias 4 = .ok (.iload_n 1, 1) := by decide +kernel
theorem zd_T_isAlias_5 : decode zb_T_isAlias 5 = .ok (.iaload, 1) := by decide +kernel
theorem zd_T_isAlias_6 : decode zb_T_isAlias 6 = .ok (.iload_n 1, 1) := by decide +kernel
theorem zd_T_isAlias_7 : decode zb_T_isAlias 7 = .ok (.if_icmp .eq 7, 3) := by decide +kernel
theorem zd_T_isAlias_10 : decode zb_T_isAlias 10 = .ok (.iconst 1, 1) := by decide +kernel
theorem zd_T_isAlias_11 : decode zb_T_isAlias 11 = .ok (.goto 4, 3) := by decide +kernel
theorem zd_T_isAlias_14 : decode zb_T_isAlias 14 = .ok (.iconst 0, 1) := by decide +kernel
theorem zd_T_isAlias_15 : decode zb_T_isAlias 15 = .ok (.ireturn, 1) := by decide +kernel
theorem zd_T_append_0 : decode zb_T_append 0 = .ok (.iload_n 1, 1) := by decide +kernel
theorem zd_T_append_1 : decode zb_T_append 1 = .ok (.iconst 3, 1) := by decide +kernel
theorem zd_T_append_2 : decode zb_T_append 2 = .ok (.imul, 1) := by decide +kernel
theorem zd_T_append_3 : decode zb_T_append 3 = .ok (.iload_n 2, 1) := by decide +kernel
theorem zd_T_append_4 : decode zb_T_append 4 = .ok (.iadd, 1) := by decide +kernel
theorem zd_T_append_5 : decode zb_T_append 5 = .ok (.istore 4, 2) := by decide +kernel
theorem zd_T_append_7 : decode zb_T_append 7 = .ok (.aload_n 0, 1) := by decide +kernel
theorem zd_T_append_8 : decode zb_T_append 8 = .ok (.getfield 25, 3) := by decide +kernel
theorem zd_T_append_11 : decode zb_T_append 11 = .ok (.iload 4, 2) := by decide +kernel
theorem zd_T_append_13 : decode zb_T_append 13 = .ok (.iaload, 1) := by decide +kernel
theorem zd_T_append_14 : decode zb_T_append 14 = .ok (.istore 5, 2) := by decide +kernel
theorem zd_T_append_16 : decode zb_T_append 16 = .ok (.iload 5, 2) := by decide +kernel
theorem zd_T_append_18 : decode zb_T_append 18 = .ok (.iconst 4, 1) := by decide +kernel
theorem zd_T_append_19 : decode zb_T_append 19 = .ok (.if_icmp .lt 5, 3) := by decide +kernel
theorem zd_T_append_22 : decode zb_T_append 22 = .ok (.iconst 0, 1) := by decide +kernel
theorem zd_T_append_23 : decode zb_T_append 23 = .ok (.ireturn, 1) := by decide +kernel
theorem zd_T_append_24 : decode zb_T_append 24 = .ok (.aload_n 0, 1) := by decide +kernel
theorem zd_T_append_25 : decode zb_T_append 25 = .ok (.getfield 22, 3) := by decide +kernel
theorem zd_T_append_28 : decode zb_T_append 28 = .ok (.iload 4, 2) := by decide +kernel
theorem zd_T_append_30 : decode zb_T_append 30 = .ok (.iconst 4, 1) := by decide +kernel
theorem zd_T_append_31 : decode zb_T_append 31 = .ok (.imul, 1) := by decide +kernel
theorem zd_T_append_32 : decode zb_T_append 32 = .ok (.iload 5, 2) := by decide +kernel
theorem zd_T_append_34 : decode zb_T_append 34 = .ok (.iadd, 1) := by decide +kernel
theorem zd_T_append_35 : decode zb_T_append 35 = .ok (.iload_n 3, 1) := by decide +kernel
theorem zd_T_append_36 : decode zb_T_append 36 = .ok (.iastore, 1) := by decide +kernel
theorem zd_T_append_37 : decode zb_T_append 37 = .ok (.aload_n 0, 1) := by decide +kernel
theorem zd_T_append_38 : decode zb_T_append 38 = .ok (.getfield 25, 3) := by decide +kernel
theorem zd_T_append_41 : decode zb_T_append 41 = .ok (.iload 4, 2) := by decide +kernel
theorem zd_T_append_43 : decode zb_T_append 43 = .ok (.iload 5, 2) := by decide +kernel
theorem zd_T_append_45 : decode zb_T_append 45 = .ok (.iconst 1, 1) := by decide +kernel
theorem zd_T_append_46 : decode zb_T_append 46 = .ok (.iadd, 1) := by decide +kernel
theorem zd_T_append_47 : decode zb_T_append 47 = .ok (.iastore, 1) := by decide +kernel
theorem zd_T_append_48 : decode zb_T_append 48 = .ok (.iconst 0, 1) := by decide +kernel
theorem zd_T_append_49 : decode zb_T_append 49 = .ok (.istore 6, 2) := by decide +kernel
theorem zd_T_append_51 : decode zb_T_append 51 = .ok (.iload 6, 2) := by decide +kernel
theorem zd_T_append_53 : decode zb_T_append 53 = .ok (.aload_n 0, 1) := by decide +kernel
theorem zd_T_append_54 : decode zb_T_append 54 = .ok (.getfield 31, 3) := by decide +kernel
theorem zd_T_append_57 : decode zb_T_append 57 = .ok (.if_icmp .ge 35, 3) := by decide +kernel
theorem zd_T_append_60 : decode zb_T_append 60 = .ok (.aload_n 0, 1) := by decide +kernel
theorem zd_T_append_61 : decode zb_T_append 61 = .ok (.iload 6, 2) := by decide +kernel
theorem zd_T_append_63 : decode zb_T_append 63 = .ok (.iload_n 1, 1) := by decide +kernel
theorem zd_T_append_64 : decode zb_T_append 64 = .ok (.invokevirtual 35, 3) := by decide +kernel
theorem zd_T_append_67 : decode zb_T_append 67 = .ok (.ifCond .eq 19, 3) := by decide +kernel
theorem zd_T_append_70 : decode zb_T_append 70 = .ok (.aload_n 0, 1) := by decide +kernel
theorem zd_T_append_71 : decode zb_T_append 71 = .ok (.getfield 28, 3) := by decide +kernel
theorem zd_T_append_74 : decode zb_T_append 74 = .ok (.iload 6, 2) := by decide +kernel
theorem zd_T_append_76 : decode zb_T_append 76 = .ok (.dup2, 1) := by decide +kernel
theorem zd_T_append_77 : decode zb_T_append 77 = .ok (.iaload, 1) := by decide +kernel
theorem zd_T_append_78 : decode zb_T_append 78 = .ok (.aload_n 0, 1) := by decide +kernel
theorem zd_T_append_79 : decode zb_T_append 79 = .ok (.getfield 28, 3) := by decide +kernel
theorem zd_T_append_82 : decode zb_T_append 82 = .ok (.iload_n 3, 1) := by decide +kernel
theorem zd_T_append_83 : decode zb_T_append 83 = .ok (.iaload, 1) := by decide +kernel
theorem zd_T_append_84 : decode zb_T_append 84 = .ok (.ior, 1) := by decide +kernel
theorem zd_T_append_85 : decode zb_T_append 85 = .ok (.iastore, 1) := by decide +kernel
theorem zd_T_append_86 : decode zb_T_append 86 = .ok (.iinc 6 1, 3) := by decide +kernel
theorem zd_T_append_89 : decode zb_T_append 89 = .ok (.goto (-38), 3) := by decide +kernel
theorem zd_T_append_92 : decode zb_T_append 92 = .ok (.iconst 1, 1) := by decide +kernel
theorem zd_T_append_93 : decode zb_T_append 93 = .ok (.ireturn, 1) := by decide +kernel
theorem zd_T_leadsTo_0 : decode zb_T_leadsTo 0 = .ok (.aload_n 0, 1) := by decide +kernel
theorem zd_T_leadsTo_1 : decode zb_T_leadsTo 1 = .ok (.getfield 28, 3) := by decide +kernel
theorem zd_T_leadsTo_4 : decode zb_T_leadsTo 4 = .ok (.iload_n 1, 1) := by decide +kernel
theorem zd_T_leadsTo_5 : decode zb_T_leadsTo 5 = .ok (.iaload, 1) := by decide +kernel
theorem zd_T_leadsTo_6 : decode zb_T_leadsTo 6 = .ok (.iload_n 2, 1) := by decide +kernel
theorem zd_T_leadsTo_7 : decode zb_T_leadsTo 7 = .ok (.ishr, 1) := by decide +kernel
theorem zd_T_leadsTo_8 : decode zb_T_leadsTo 8 = .ok (.iconst 1, 1) := by decide +kernel
theorem zd_T_leadsTo_9 : decode zb_T_leadsTo 9 = .ok (.iand, 1) := by decide +kernel
theorem zd_T_leadsTo_10 : decode zb_T_leadsTo 10 = .ok (.ifCond .eq 7, 3) := by decide +kernel
theorem zd_T_leadsTo_13 : decode zb_T_leadsTo 13 = .ok (.iconst 1, 1) := by decide +kernel
theorem zd_T_leadsTo_14 : decode zb_T_leadsTo 14 = .ok (.goto 4, 3) := by decide +kernel
theorem zd_T_leadsTo_17 : decode zb_T_leadsTo 17 = .ok (.iconst 0, 1) := by decide +kernel
theorem zd_T_leadsTo_18 : decode zb_T_leadsTo 18 = .ok (.ireturn, 1) := by decide +kernel
theorem zd_W_forgetFrom_0 : decode zb_W_forgetFrom 0 = .ok (.iconst 0, 1) := by decide +kernel
theorem zd_W_forgetFrom_1 : decode zb_W_forgetFrom 1 = .ok (.istore_n 2, 1) := by decide +kernel
theorem zd_W_forgetFrom_2 : decode zb_W_forgetFrom 2 = .ok (.iload_n 2, 1) := by decide +kernel
theorem zd_W_forgetFrom_3 : decode zb_W_forgetFrom 3 = .ok (.aload_n 0, 1) := by decide +kernel
theorem zd_W_forgetFrom_4 : decode zb_W_forgetFrom 4 = .ok (.getfield 12, 3) := by decide +kernel
theorem zd_W_forgetFrom_7 : decode zb_W_forgetFrom 7 = .ok (.invokevirtual 212, 3) := by decide +kernel
theorem zd_W_forgetFrom_10 : decode zb_W_forgetFrom 10 = .ok (.if_icmp .ge 57, 3) := by decide +kernel
theorem zd_W_forgetFrom_13 : decode zb_W_forgetFrom 13 = .ok (.aload_n 0, 1) := by decide +kernel
theorem zd_W_forgetFrom_14 : decode zb_W_forgetFrom 14 = .ok (.getfield 12, 3) := by decide +kernel
theorem zd_W_forgetFrom_17 : decode zb_W_forgetFrom 17 = .ok (.iload_n 2, 1) := by decide +kernel
theorem zd_W_forgetFrom_18 : decode zb_W_forgetFrom 18 = .ok (.iload_n 1, 1) := by decide +kernel
theorem zd_W_forgetFrom_19 : decode zb_W_forgetFrom 19 = .ok (.invokevirtual 215, 3) := by decide +kernel
theorem zd_W_forgetFrom_22 : decode zb_W_forgetFrom 22 = .ok (.ifCond .eq 39, 3) := by decide +kernel
theorem zd_W_forgetFrom_25 : decode zb_W_forgetFrom 25 = .ok (.iconst 0, 1) := by decide +kernel
theorem zd_W_forgetFrom_26 : decode zb_W_forgetFrom 26 = .ok (.istore_n 3, 1) := by decide +kernel
theorem zd_W_forgetFrom_27 : decode zb_W_forgetFrom 27 = .ok (.iload_n 3, 1) := by decide +kernel
theorem zd_W_forgetFrom_28 : decode zb_W_forgetFrom 28 = .ok (.aload_n 0, 1) := by decide +kernel
theorem zd_W_forgetFrom_29 : decode zb_W_forgetFrom 29 = .ok (.getfield 19, 3) := by decide +kernel
theorem zd_W_forgetFrom_32 : decode zb_W_forgetFrom 32 = .ok (.invokevirtual 216, 3) := by decide +kernel
theorem zd_W_forgetFrom_35 : decode zb_W_forgetFrom 35 = .ok (.if_icmp .ge 26, 3) := by decide +kernel
theorem zd_W_forgetFrom_38 : decode zb_W_forgetFrom 38 = .ok (.aload_n 0, 1) := by decide +kernel
theorem zd_W_forgetFrom_39 : decode zb_W_forgetFrom 39 = .ok (.getfield 26, 3) := by decide +kernel
theorem zd_W_forgetFrom_42 : decode zb_W_forgetFrom 42 = .ok (.iload_n 2, 1) := by decide +kernel
theorem zd_W_forgetFrom_43 : decode zb_W_forgetFrom 43 = .ok (.iload_n 3, 1) := by decide +kernel
theorem zd_W_forgetFrom_44 : decode zb_W_forgetFrom 44 = .ok (.aload_n 0, 1) := by decide +kernel
theorem zd_W_forgetFrom_45 : decode zb_W_forgetFrom 45 = .ok (.getfield 19, 3) := by decide +kernel
theorem zd_W_forgetFrom_48 : decode zb_W_forgetFrom 48 = .ok (.iload_n 3, 1) := by decide +kernel
theorem zd_W_forgetFrom_49 : decode zb_W_forgetFrom 49 = .ok (.invokevirtual 176, 3) := by decide +kernel
theorem zd_W_forgetFrom_52 : decode zb_W_forgetFrom 52 = .ok (.invokevirtual 217, 3) := by decide +kernel
theorem zd_W_forgetFrom_55 : decode zb_W_forgetFrom 55 = .ok (.iinc 3 1, 3) := by decide +kernel
theorem zd_W_forgetFrom_58 : decode zb_W_forgetFrom 58 = .ok (.goto (-31), 3) := by decide +kernel
theorem zd_W_forgetFrom_61 : decode zb_W_forgetFrom 61 = .ok (.iinc 2 1, 3) := by decide +kernel
theorem zd_W_forgetFrom_64 : decode zb_W_forgetFrom 64 = .ok (.goto (-62), 3) := by decide +kernel
theorem zd_W_forgetFrom_67 : decode zb_W_forgetFrom 67 = .ok (.return_, 1) := by decide +kernel
theorem zd_T_count_0 : decode zb_T_count 0 = .ok (.aload_n 0, 1) := by decide +kernel
theorem zd_T_count_1 : decode zb_T_count 1 = .ok (.getfield 31, 3) := by decide +kernel
theorem zd_T_count_4 : decode zb_T_count 4 = .ok (.ireturn, 1) := by decide +kernel
theorem zd_A_count_0 : decode zb_A_count 0 = .ok (.aload_n 0, 1) := by decide +kernel
theorem zd_A_count_1 : decode zb_A_count 1 = .ok (.getfield 36, 3) := by decide +kernel
theorem zd_A_count_4 : decode zb_A_count 4 = .ok (.ireturn, 1) := by decide +kernel
theorem zd_A_nameOf_0 : decode zb_A_nameOf 0 = .ok (.aload_n 0, 1) := by decide +kernel
theorem zd_A_nameOf_1 : decode zb_A_nameOf 1 = .ok (.getfield 24, 3) := by decide +kernel
theorem zd_A_nameOf_4 : decode zb_A_nameOf 4 = .ok (.iload_n 1, 1) := by decide +kernel
theorem zd_A_nameOf_5 : decode zb_A_nameOf 5 = .ok (.iaload, 1) := by decide +kernel
theorem zd_A_nameOf_6 : decode zb_A_nameOf 6 = .ok (.ireturn, 1) := by decide +kernel
theorem zd_M_forget_0 : decode zb_M_forget 0 = .ok (.iload_n 1, 1) := by decide +kernel
theorem zd_M_forget_1 : decode zb_M_forget 1 = .ok (.iload_n 2, 1) := by decide +kernel
theorem zd_M_forget_2 : decode zb_M_forget 2 = .ok (.invokestatic 37, 3) := by decide +kernel
theorem zd_M_forget_5 : decode zb_M_forget 5 = .ok (.istore 4, 2) := by decide +kernel
theorem zd_M_forget_7 : decode zb_M_forget 7 = .ok (.aload_n 0, 1) := by decide +kernel
theorem zd_M_forget_8 : decode zb_M_forget 8 = .ok (.dup, 1) := by decide +kernel
theorem zd_M_forget_9 : decode zb_M_forget 9 = .ok (.getfield 41, 3) := by decide +kernel
theorem zd_M_forget_12 : decode zb_M_forget 12 = .ok (.aload_n 0, 1) := by decide +kernel
theorem zd_M_forget_13 : decode zb_M_forget 13 = .ok (.getfield 11, 3) := by decide +kernel
theorem zd_M_forget_16 : decode zb_M_forget 16 = .ok (.iload 4, 2) := by decide +kernel
theorem zd_M_forget_18 : decode zb_M_forget 18 = .ok (.iaload, 1) := by decide +kernel
theorem zd_M_forget_19 : decode zb_M_forget 19 = .ok (.invokestatic 45, 3) := by decide +kernel
theorem zd_M_forget_22 : decode zb_M_forget 22 = .ok (.isub, 1) := by decide +kernel
theorem zd_M_forget_23 : decode zb_M_forget 23 = .ok (.putfield 41, 3) := by decide +kernel
theorem zd_M_forget_26 : decode zb_M_forget 26 = .ok (.aload_n 0, 1) := by decide +kernel
theorem zd_M_forget_27 : decode zb_M_forget 27 = .ok (.getfield 11, 3) := by decide +kernel
theorem zd_M_forget_30 : decode zb_M_forget 30 = .ok (.iload 4, 2) := by decide +kernel
theorem zd_M_forget_32 : decode zb_M_forget 32 = .ok (.iconst 0, 1) := by decide +kernel
theorem zd_M_forget_33 : decode zb_M_forget 33 = .ok (.iastore, 1) := by decide +kernel
theorem zd_M_forget_34 : decode zb_M_forget 34 = .ok (.aload_n 0, 1) := by decide +kernel
theorem zd_M_forget_35 : decode zb_M_forget 35 = .ok (.getfield 15, 3) := by decide +kernel
theorem zd_M_forget_38 : decode zb_M_forget 38 = .ok (.iload 4, 2) := by decide +kernel
theorem zd_M_forget_40 : decode zb_M_forget 40 = .ok (.iconst 0, 1) := by decide +kernel
theorem zd_M_forget_41 : decode zb_M_forget 41 = .ok (.iastore, 1) := by decide +kernel
theorem zd_M_forget_42 : decode zb_M_forget 42 = .ok (.iload_n 3, 1) := by decide +kernel
theorem zd_M_forget_43 : decode zb_M_forget 43 = .ok (.iconst (-1), 1) := by decide +kernel
theorem zd_M_forget_44 : decode zb_M_forget 44 = .ok (.if_icmp .eq 25, 3) := by decide +kernel
theorem zd_M_forget_47 : decode zb_M_forget 47 = .ok (.aload_n 0, 1) := by decide +kernel
theorem zd_M_forget_48 : decode zb_M_forget 48 = .ok (.iload_n 1, 1) := by decide +kernel
theorem zd_M_forget_49 : decode zb_M_forget 49 = .ok (.iload_n 3, 1) := by decide +kernel
theorem zd_M_forget_50 : decode zb_M_forget 50 = .ok (.invokevirtual 51, 3) := by decide +kernel
theorem zd_M_forget_53 : decode zb_M_forget 53 = .ok (.iload_n 2, 1) := by decide +kernel
theorem zd_M_forget_54 : decode zb_M_forget 54 = .ok (.if_icmp .ne 15, 3) := by decide +kernel
theorem zd_M_forget_57 : decode zb_M_forget 57 = .ok (.aload_n 0, 1) := by decide +kernel
theorem zd_M_forget_58 : decode zb_M_forget 58 = .ok (.getfield 25, 3) := by decide +kernel
theorem zd_M_forget_61 : decode zb_M_forget 61 = .ok (.iload_n 1, 1) := by decide +kernel
theorem zd_M_forget_62 : decode zb_M_forget 62 = .ok (.bipush 10, 2) := by decide +kernel
theorem zd_M_forget_64 : decode zb_M_forget 64 = .ok (.imul, 1) := by decide +kernel
theorem zd_M_forget_65 : decode zb_M_forget 65 = .ok (.iload_n 3, 1) := by decide +kernel
theorem zd_M_forget_66 : decode zb_M_forget 66 = .ok (.iadd, 1) := by decide +kernel
theorem zd_M_forget_67 : decode zb_M_forget 67 = .ok (.iconst (-1), 1) := by decide +kernel
theorem zd_M_forget_68 : decode zb_M_forget 68 = .ok (.iastore, 1) := by decide +kernel
theorem zd_M_forget_69 : decode zb_M_forget 69 = .ok (.return_, 1) := by decide +kernel
theorem zd_M_pair_0 : decode zb_M_pair 0 = .ok (.iload_n 0, 1) := by decide +kernel
theorem zd_M_pair_1 : decode zb_M_pair 1 = .ok (.bipush 8, 2) := by decide +kernel
theorem zd_M_pair_3 : decode zb_M_pair 3 = .ok (.imul, 1) := by decide +kernel
theorem zd_M_pair_4 : decode zb_M_pair 4 = .ok (.iload_n 1, 1) := by decide +kernel
theorem zd_M_pair_5 : decode zb_M_pair 5 = .ok (.iadd, 1) := by decide +kernel
theorem zd_M_pair_6 : decode zb_M_pair 6 = .ok (.ireturn, 1) := by decide +kernel
theorem zd_Ji_bitCount_0 : decode zb_Ji_bitCount 0 = .ok (.iload_n 0, 1) := by decide +kernel
theorem zd_Ji_bitCount_1 : decode zb_Ji_bitCount 1 = .ok (.iload_n 0, 1) := by decide +kernel
theorem zd_Ji_bitCount_2 : decode zb_Ji_bitCount 2 = .ok (.iconst 1, 1) := by decide +kernel
theorem zd_Ji_bitCount_3 : decode zb_Ji_bitCount 3 = .ok (.iushr, 1) := by decide +kernel
theorem zd_Ji_bitCount_4 : decode zb_Ji_bitCount 4 = .ok (.ldc_w 265, 3) := by decide +kernel
theorem zd_Ji_bitCount_7 : decode zb_Ji_bitCount 7 = .ok (.iand, 1) := by decide +kernel
theorem zd_Ji_bitCount_8 : decode zb_Ji_bitCount 8 = .ok (.isub, 1) := by decide +kernel
theorem zd_Ji_bitCount_9 : decode zb_Ji_bitCount 9 = .ok (.istore_n 0, 1) := by decide +kernel
theorem zd_Ji_bitCount_10 : decode zb_Ji_bitCount 10 = .ok (.iload_n 0, 1) := by decide +kernel
theorem zd_Ji_bitCount_11 : decode zb_Ji_bitCount 11 = .ok (.ldc_w 266, 3) := by decide +kernel
theorem zd_Ji_bitCount_14 : decode zb_Ji_bitCount 14 = .ok (.iand, 1) := by decide +kernel
theorem zd_Ji_bitCount_15 : decode zb_Ji_bitCount 15 = .ok (.iload_n 0, 1) := by decide +kernel
theorem zd_Ji_bitCount_16 : decode zb_Ji_bitCount 16 = .ok (.iconst 2, 1) := by decide +kernel
theorem zd_Ji_bitCount_17 : decode zb_Ji_bitCount 17 = .ok (.iushr, 1) := by decide +kernel
theorem zd_Ji_bitCount_18 : decode zb_Ji_bitCount 18 = .ok (.ldc_w 266, 3) := by decide +kernel
theorem zd_Ji_bitCount_21 : decode zb_Ji_bitCount 21 = .ok (.iand, 1) := by decide +kernel
theorem zd_Ji_bitCount_22 : decode zb_Ji_bitCount 22 = .ok (.iadd, 1) := by decide +kernel
theorem zd_Ji_bitCount_23 : decode zb_Ji_bitCount 23 = .ok (.istore_n 0, 1) := by decide +kernel
theorem zd_Ji_bitCount_24 : decode zb_Ji_bitCount 24 = .ok (.iload_n 0, 1) := by decide +kernel
theorem zd_Ji_bitCount_25 : decode zb_Ji_bitCount 25 = .ok (.iload_n 0, 1) := by decide +kernel
theorem zd_Ji_bitCount_26 : decode zb_Ji_bitCount 26 = .ok (.iconst 4, 1) := by decide +kernel
theorem zd_Ji_bitCount_27 : decode zb_Ji_bitCount 27 = .ok (.iushr, 1) := by decide +kernel
theorem zd_Ji_bitCount_28 : decode zb_Ji_bitCount 28 = .ok (.iadd, 1) := by decide +kernel
theorem zd_Ji_bitCount_29 : decode zb_Ji_bitCount 29 = .ok (.ldc_w 267, 3) := by decide +kernel
theorem zd_Ji_bitCount_32 : decode zb_Ji_bitCount 32 = .ok (.iand, 1) := by decide +kernel
theorem zd_Ji_bitCount_33 : decode zb_Ji_bitCount 33 = .ok (.istore_n 0, 1) := by decide +kernel
theorem zd_Ji_bitCount_34 : decode zb_Ji_bitCount 34 = .ok (.iload_n 0, 1) := by decide +kernel
theorem zd_Ji_bitCount_35 : decode zb_Ji_bitCount 35 = .ok (.iload_n 0, 1) := by decide +kernel
theorem zd_Ji_bitCount_36 : decode zb_Ji_bitCount 36 = .ok (.bipush 8, 2) := by decide +kernel
theorem zd_Ji_bitCount_38 : decode zb_Ji_bitCount 38 = .ok (.iushr, 1) := by decide +kernel
theorem zd_Ji_bitCount_39 : decode zb_Ji_bitCount 39 = .ok (.iadd, 1) := by decide +kernel
theorem zd_Ji_bitCount_40 : decode zb_Ji_bitCount 40 = .ok (.istore_n 0, 1) := by decide +kernel
theorem zd_Ji_bitCount_41 : decode zb_Ji_bitCount 41 = .ok (.iload_n 0, 1) := by decide +kernel
theorem zd_Ji_bitCount_42 : decode zb_Ji_bitCount 42 = .ok (.iload_n 0, 1) := by decide +kernel
theorem zd_Ji_bitCount_43 : decode zb_Ji_bitCount 43 = .ok (.bipush 16, 2) := by decide +kernel
theorem zd_Ji_bitCount_45 : decode zb_Ji_bitCount 45 = .ok (.iushr, 1) := by decide +kernel
theorem zd_Ji_bitCount_46 : decode zb_Ji_bitCount 46 = .ok (.iadd, 1) := by decide +kernel
theorem zd_Ji_bitCount_47 : decode zb_Ji_bitCount 47 = .ok (.istore_n 0, 1) := by decide +kernel
theorem zd_Ji_bitCount_48 : decode zb_Ji_bitCount 48 = .ok (.iload_n 0, 1) := by decide +kernel
theorem zd_Ji_bitCount_49 : decode zb_Ji_bitCount 49 = .ok (.bipush 63, 2) := by decide +kernel
theorem zd_Ji_bitCount_51 : decode zb_Ji_bitCount 51 = .ok (.iand, 1) := by decide +kernel
theorem zd_Ji_bitCount_52 : decode zb_Ji_bitCount 52 = .ok (.ireturn, 1) := by decide +kernel
theorem zd_M_makerOf_0 : decode zb_M_makerOf 0 = .ok (.aload_n 0, 1) := by decide +kernel
theorem zd_M_makerOf_1 : decode zb_M_makerOf 1 = .ok (.getfield 25, 3) := by decide +kernel
theorem zd_M_makerOf_4 : decode zb_M_makerOf 4 = .ok (.iload_n 1, 1) := by decide +kernel
theorem zd_M_makerOf_5 : decode zb_M_makerOf 5 = .ok (.bipush 10, 2) := by decide +kernel
theorem zd_M_makerOf_7 : decode zb_M_makerOf 7 = .ok (.imul, 1) := by decide +kernel
theorem zd_M_makerOf_8 : decode zb_M_makerOf 8 = .ok (.iload_n 2, 1) := by decide +kernel
theorem zd_M_makerOf_9 : decode zb_M_makerOf 9 = .ok (.iadd, 1) := by decide +kernel
theorem zd_M_makerOf_10 : decode zb_M_makerOf 10 = .ok (.iaload, 1) := by decide +kernel
theorem zd_M_makerOf_11 : decode zb_M_makerOf 11 = .ok (.ireturn, 1) := by decide +kernel
theorem zd_W_change_0 : decode zb_W_change 0 = .ok (.aload_n 0, 1) := by decide +kernel
theorem zd_W_change_1 : decode zb_W_change 1 = .ok (.getfield 12, 3) := by decide +kernel
theorem zd_W_change_4 : decode zb_W_change 4 = .ok (.iload_n 1, 1) := by decide +kernel
theorem zd_W_change_5 : decode zb_W_change 5 = .ok (.invokevirtual 44, 3) := by decide +kernel
theorem zd_W_change_8 : decode zb_W_change 8 = .ok (.ifCond .eq 14, 3) := by decide +kernel
theorem zd_W_change_11 : decode zb_W_change 11 = .ok (.aload_n 0, 1) := by decide +kernel
theorem zd_W_change_12 : decode zb_W_change 12 = .ok (.getfield 12, 3) := by decide +kernel
theorem zd_W_change_15 : decode zb_W_change 15 = .ok (.iload_n 1, 1) := by decide +kernel
theorem zd_W_change_16 : decode zb_W_change 16 = .ok (.invokevirtual 55, 3) := by decide +kernel
theorem zd_W_change_19 : decode zb_W_change 19 = .ok (.ifCond .eq 5, 3) := by decide +kernel
theorem zd_W_change_22 : decode zb_W_change 22 = .ok (.iconst 0, 1) := by decide +kernel
theorem zd_W_change_23 : decode zb_W_change 23 = .ok (.ireturn, 1) := by decide +kernel
theorem zd_W_change_24 : decode zb_W_change 24 = .ok (.aload_n 0, 1) := by decide +kernel
theorem zd_W_change_25 : decode zb_W_change 25 = .ok (.getfield 12, 3) := by decide +kernel
theorem zd_W_change_28 : decode zb_W_change 28 = .ok (.iload_n 1, 1) := by decide +kernel
theorem zd_W_change_29 : decode zb_W_change 29 = .ok (.lload_n 2, 1) := by decide +kernel
theorem zd_W_change_30 : decode zb_W_change 30 = .ok (.iload 4, 2) := by decide +kernel
theorem zd_W_change_32 : decode zb_W_change 32 = .ok (.sipush 255, 3) := by decide +kernel
theorem zd_W_change_35 : decode zb_W_change 35 = .ok (.iand, 1) := by decide +kernel
theorem zd_W_change_36 : decode zb_W_change 36 = .ok (.invokevirtual 66, 3) := by decide +kernel
theorem zd_W_change_39 : decode zb_W_change 39 = .ok (.ifCond .eq 8, 3) := by decide +kernel
theorem zd_W_change_42 : decode zb_W_change 42 = .ok (.aload_n 0, 1) := by decide +kernel
theorem zd_W_change_43 : decode zb_W_change 43 = .ok (.iload_n 1, 1) := by decide +kernel
theorem zd_W_change_44 : decode zb_W_change 44 = .ok (.invokevirtual 62, 3) := by decide +kernel
theorem zd_W_change_47 : decode zb_W_change 47 = .ok (.iconst 1, 1) := by decide +kernel
theorem zd_W_change_48 : decode zb_W_change 48 = .ok (.ireturn, 1) := by decide +kernel
theorem zd_T_assign_0 : decode zb_T_assign 0 = .ok (.aload_n 0, 1) := by decide +kernel
theorem zd_T_assign_1 : decode zb_T_assign 1 = .ok (.getfield 9, 3) := by decide +kernel
theorem zd_T_assign_4 : decode zb_T_assign 4 = .ok (.iload_n 1, 1) := by decide +kernel
theorem zd_T_assign_5 : decode zb_T_assign 5 = .ok (.laload, 1) := by decide +kernel
theorem zd_T_assign_6 : decode zb_T_assign 6 = .ok (.lload_n 2, 1) := by decide +kernel
theorem zd_T_assign_7 : decode zb_T_assign 7 = .ok (.lcmp, 1) := by decide +kernel
theorem zd_T_assign_8 : decode zb_T_assign 8 = .ok (.ifCond .ne 14, 3) := by decide +kernel
theorem zd_T_assign_11 : decode zb_T_assign 11 = .ok (.aload_n 0, 1) := by decide +kernel
theorem zd_T_assign_12 : decode zb_T_assign 12 = .ok (.getfield 15, 3) := by decide +kernel
theorem zd_T_assign_15 : decode zb_T_assign 15 = .ok (.iload_n 1, 1) := by decide +kernel
theorem zd_T_assign_16 : decode zb_T_assign 16 = .ok (.iaload, 1) := by decide +kernel
theorem zd_T_assign_17 : decode zb_T_assign 17 = .ok (.iload 4, 2) := by decide +kernel
theorem zd_T_assign_19 : decode zb_T_assign 19 = .ok (.if_icmp .eq 7, 3) := by decide +kernel
theorem zd_T_assign_22 : decode zb_T_assign 22 = .ok (.iconst 1, 1) := by decide +kernel
theorem zd_T_assign_23 : decode zb_T_assign 23 = .ok (.goto 4, 3) := by decide +kernel
theorem zd_T_assign_26 : decode zb_T_assign 26 = .ok (.iconst 0, 1) := by decide +kernel
theorem zd_T_assign_27 : decode zb_T_assign 27 = .ok (.istore 5, 2) := by decide +kernel
theorem zd_T_assign_29 : decode zb_T_assign 29 = .ok (.aload_n 0, 1) := by decide +kernel
theorem zd_T_assign_30 : decode zb_T_assign 30 = .ok (.getfield 9, 3) := by decide +kernel
theorem zd_T_assign_33 : decode zb_T_assign 33 = .ok (.iload_n 1, 1) := by decide +kernel
theorem zd_T_assign_34 : decode zb_T_assign 34 = .ok (.lload_n 2, 1) := by decide +kernel
theorem zd_T_assign_35 : decode zb_T_assign 35 = .ok (.lastore, 1) := by decide +kernel
theorem zd_T_assign_36 : decode zb_T_assign 36 = .ok (.aload_n 0, 1) := by decide +kernel
theorem zd_T_assign_37 : decode zb_T_assign 37 = .ok (.getfield 15, 3) := by decide +kernel
theorem zd_T_assign_40 : decode zb_T_assign 40 = .ok (.iload_n 1, 1) := by decide +kernel
theorem zd_T_assign_41 : decode zb_T_assign 41 = .ok (.iload 4, 2) := by decide +kernel
theorem zd_T_assign_43 : decode zb_T_assign 43 = .ok (.iastore, 1) := by decide +kernel
theorem zd_T_assign_44 : decode zb_T_assign 44 = .ok (.iload 5, 2) := by decide +kernel
theorem zd_T_assign_46 : decode zb_T_assign 46 = .ok (.ireturn, 1) := by decide +kernel
theorem zd_W_aspect_0 : decode zb_W_aspect 0 = .ok (.iload_n 1, 1) := by decide +kernel
theorem zd_W_aspect_1 : decode zb_W_aspect 1 = .ok (.ifCond .lt 21, 3) := by decide +kernel
theorem zd_W_aspect_4 : decode zb_W_aspect 4 = .ok (.iload_n 1, 1) := by decide +kernel
theorem zd_W_aspect_5 : decode zb_W_aspect 5 = .ok (.iconst 4, 1) := by decide +kernel
theorem zd_W_aspect_6 : decode zb_W_aspect 6 = .ok (.if_icmp .ge 16, 3) := by decide +kernel
theorem zd_W_aspect_9 : decode zb_W_aspect 9 = .ok (.iload 5, 2) := by decide +kernel
theorem zd_W_aspect_11 : decode zb_W_aspect 11 = .ok (.iconst (-1), 1) := by decide +kernel
theorem zd_W_aspect_12 : decode zb_W_aspect 12 = .ok (.if_icmp .lt 10, 3) := by decide +kernel
theorem zd_W_aspect_15 : decode zb_W_aspect 15 = .ok (.iload 5, 2) := by decide +kernel
theorem zd_W_aspect_17 : decode zb_W_aspect 17 = .ok (.bipush 10, 2) := by decide +kernel
theorem zd_W_aspect_19 : decode zb_W_aspect 19 = .ok (.if_icmp .lt 5, 3) := by decide +kernel
theorem zd_W_aspect_22 : decode zb_W_aspect 22 = .ok (.iconst (-1), 1) := by decide +kernel
theorem zd_W_aspect_23 : decode zb_W_aspect 23 = .ok (.ireturn, 1) := by decide +kernel
theorem zd_W_aspect_24 : decode zb_W_aspect 24 = .ok (.aload_n 0, 1) := by decide +kernel
theorem zd_W_aspect_25 : decode zb_W_aspect 25 = .ok (.getfield 19, 3) := by decide +kernel
theorem zd_W_aspect_28 : decode zb_W_aspect 28 = .ok (.iload_n 1, 1) := by decide +kernel
theorem zd_W_aspect_29 : decode zb_W_aspect 29 = .ok (.iload_n 2, 1) := by decide +kernel
theorem zd_W_aspect_30 : decode zb_W_aspect 30 = .ok (.bipush 7, 2) := by decide +kernel
theorem zd_W_aspect_32 : decode zb_W_aspect 32 = .ok (.iand, 1) := by decide +kernel
theorem zd_W_aspect_33 : decode zb_W_aspect 33 = .ok (.iload_n 3, 1) := by decide +kernel
theorem zd_W_aspect_34 : decode zb_W_aspect 34 = .ok (.sipush 255, 3) := by decide +kernel
theorem zd_W_aspect_37 : decode zb_W_aspect 37 = .ok (.iand, 1) := by decide +kernel
theorem zd_W_aspect_38 : decode zb_W_aspect 38 = .ok (.iload 4, 2) := by decide +kernel
theorem zd_W_aspect_40 : decode zb_W_aspect 40 = .ok (.sipush 255, 3) := by decide +kernel
theorem zd_W_aspect_43 : decode zb_W_aspect 43 = .ok (.iand, 1) := by decide +kernel
theorem zd_W_aspect_44 : decode zb_W_aspect 44 = .ok (.iload 5, 2) := by decide +kernel
theorem zd_W_aspect_46 : decode zb_W_aspect 46 = .ok (.invokevirtual 70, 3) := by decide +kernel
theorem zd_W_aspect_49 : decode zb_W_aspect 49 = .ok (.ireturn, 1) := by decide +kernel
theorem zd_A_open_0 : decode zb_A_open 0 = .ok (.aload_n 0, 1) := by decide +kernel
theorem zd_A_open_1 : decode zb_A_open 1 = .ok (.getfield 36, 3) := by decide +kernel
end
section
theorem zd_A_open_4 : decode zb_A_open 4 = .ok (.bipush 8, 2) := by decide +kernel
theorem zd_A_open_6 : decode zb_A_open 6 = .ok (.if_icmp .lt 5, 3) := by decide +kernel
theorem zd_A_open_9 : decode zb_A_open 9 = .ok (.iconst (-1), 1) := by decide +kernel
theorem zd_A_open_10 : decode zb_A_open 10 = .ok (.ireturn, 1) := by decide +kernel
theorem zd_A_open_11 : decode zb_A_open 11 = .ok (.aload_n 0, 1) := by decide +kernel
theorem zd_A_open_12 : decode zb_A_open 12 = .ok (.getfield 36, 3) := by decide +kernel
theorem zd_A_open_15 : decode zb_A_open 15 = .ok (.istore 6, 2) := by decide +kernel
theorem zd_A_open_17 : decode zb_A_open 17 = .ok (.aload_n 0, 1) := by decide +kernel
theorem zd_A_open_18 : decode zb_A_open 18 = .ok (.getfield 9, 3) := by decide +kernel
theorem zd_A_open_21 : decode zb_A_open 21 = .ok (.iload 6, 2) := by decide +kernel
theorem zd_A_open_23 : decode zb_A_open 23 = .ok (.iload_n 1, 1) := by decide +kernel
theorem zd_A_open_24 : decode zb_A_open 24 = .ok (.iastore, 1) := by decide +kernel
theorem zd_A_open_25 : decode zb_A_open 25 = .ok (.aload_n 0, 1) := by decide +kernel
theorem zd_A_open_26 : decode zb_A_open 26 = .ok (.getfield 15, 3) := by decide +kernel
theorem zd_A_open_29 : decode zb_A_open 29 = .ok (.iload 6, 2) := by decide +kernel
theorem zd_A_open_31 : decode zb_A_open 31 = .ok (.iload_n 2, 1) := by decide +kernel
theorem zd_A_open_32 : decode zb_A_open 32 = .ok (.iastore, 1) := by decide +kernel
theorem zd_A_open_33 : decode zb_A_open 33 = .ok (.aload_n 0, 1) := by decide +kernel
theorem zd_A_open_34 : decode zb_A_open 34 = .ok (.getfield 18, 3) := by decide +kernel
theorem zd_A_open_37 : decode zb_A_open 37 = .ok (.iload 6, 2) := by decide +kernel
theorem zd_A_open_39 : decode zb_A_open 39 = .ok (.iload_n 3, 1) := by decide +kernel
theorem zd_A_open_40 : decode zb_A_open 40 = .ok (.iastore, 1) := by decide +kernel
theorem zd_A_open_41 : decode zb_A_open 41 = .ok (.aload_n 0, 1) := by decide +kernel
theorem zd_A_open_42 : decode zb_A_open 42 = .ok (.getfield 21, 3) := by decide +kernel
theorem zd_A_open_45 : decode zb_A_open 45 = .ok (.iload 6, 2) := by decide +kernel
theorem zd_A_open_47 : decode zb_A_open 47 = .ok (.iload 4, 2) := by decide +kernel
theorem zd_A_open_49 : decode zb_A_open 49 = .ok (.iastore, 1) := by decide +kernel
theorem zd_A_open_50 : decode zb_A_open 50 = .ok (.aload_n 0, 1) := by decide +kernel
theorem zd_A_open_51 : decode zb_A_open 51 = .ok (.getfield 24, 3) := by decide +kernel
theorem zd_A_open_54 : decode zb_A_open 54 = .ok (.iload 6, 2) := by decide +kernel
theorem zd_A_open_56 : decode zb_A_open 56 = .ok (.iload 5, 2) := by decide +kernel
theorem zd_A_open_58 : decode zb_A_open 58 = .ok (.iastore, 1) := by decide +kernel
theorem zd_A_open_59 : decode zb_A_open 59 = .ok (.aload_n 0, 1) := by decide +kernel
theorem zd_A_open_60 : decode zb_A_open 60 = .ok (.getfield 33, 3) := by decide +kernel
theorem zd_A_open_63 : decode zb_A_open 63 = .ok (.iload 6, 2) := by decide +kernel
theorem zd_A_open_65 : decode zb_A_open 65 = .ok (.iconst 1, 1) := by decide +kernel
theorem zd_A_open_66 : decode zb_A_open 66 = .ok (.iload 6, 2) := by decide +kernel
theorem zd_A_open_68 : decode zb_A_open 68 = .ok (.ishl, 1) := by decide +kernel
theorem zd_A_open_69 : decode zb_A_open 69 = .ok (.iastore, 1) := by decide +kernel
theorem zd_A_open_70 : decode zb_A_open 70 = .ok (.aload_n 0, 1) := by decide +kernel
theorem zd_A_open_71 : decode zb_A_open 71 = .ok (.dup, 1) := by decide +kernel
theorem zd_A_open_72 : decode zb_A_open 72 = .ok (.getfield 36, 3) := by decide +kernel
theorem zd_A_open_75 : decode zb_A_open 75 = .ok (.iconst 1, 1) := by decide +kernel
theorem zd_A_open_76 : decode zb_A_open 76 = .ok (.iadd, 1) := by decide +kernel
theorem zd_A_open_77 : decode zb_A_open 77 = .ok (.putfield 36, 3) := by decide +kernel
theorem zd_A_open_80 : decode zb_A_open 80 = .ok (.iload 6, 2) := by decide +kernel
theorem zd_A_open_82 : decode zb_A_open 82 = .ok (.ireturn, 1) := by decide +kernel
theorem zd_W_need_0 : decode zb_W_need 0 = .ok (.aload_n 0, 1) := by decide +kernel
theorem zd_W_need_1 : decode zb_W_need 1 = .ok (.getfield 19, 3) := by decide +kernel
theorem zd_W_need_4 : decode zb_W_need 4 = .ok (.iload_n 1, 1) := by decide +kernel
theorem zd_W_need_5 : decode zb_W_need 5 = .ok (.invokevirtual 73, 3) := by decide +kernel
theorem zd_W_need_8 : decode zb_W_need 8 = .ok (.ifCond .eq 14, 3) := by decide +kernel
theorem zd_W_need_11 : decode zb_W_need 11 = .ok (.aload_n 0, 1) := by decide +kernel
theorem zd_W_need_12 : decode zb_W_need 12 = .ok (.getfield 19, 3) := by decide +kernel
theorem zd_W_need_15 : decode zb_W_need 15 = .ok (.iload_n 2, 1) := by decide +kernel
theorem zd_W_need_16 : decode zb_W_need 16 = .ok (.invokevirtual 73, 3) := by decide +kernel
theorem zd_W_need_19 : decode zb_W_need 19 = .ok (.ifCond .ne 5, 3) := by decide +kernel
theorem zd_W_need_22 : decode zb_W_need 22 = .ok (.iconst (-1), 1) := by decide +kernel
theorem zd_W_need_23 : decode zb_W_need 23 = .ok (.ireturn, 1) := by decide +kernel
theorem zd_W_need_24 : decode zb_W_need 24 = .ok (.aload_n 0, 1) := by decide +kernel
theorem zd_W_need_25 : decode zb_W_need 25 = .ok (.getfield 19, 3) := by decide +kernel
theorem zd_W_need_28 : decode zb_W_need 28 = .ok (.iload_n 1, 1) := by decide +kernel
theorem zd_W_need_29 : decode zb_W_need 29 = .ok (.iload_n 2, 1) := by decide +kernel
theorem zd_W_need_30 : decode zb_W_need 30 = .ok (.invokevirtual 74, 3) := by decide +kernel
theorem zd_W_need_33 : decode zb_W_need 33 = .ok (.ifCond .ne 15, 3) := by decide +kernel
theorem zd_W_need_36 : decode zb_W_need 36 = .ok (.aload_n 0, 1) := by decide +kernel
theorem zd_W_need_37 : decode zb_W_need 37 = .ok (.getfield 19, 3) := by decide +kernel
theorem zd_W_need_40 : decode zb_W_need 40 = .ok (.iload_n 1, 1) := by decide +kernel
theorem zd_W_need_41 : decode zb_W_need 41 = .ok (.invokevirtual 78, 3) := by decide +kernel
theorem zd_W_need_44 : decode zb_W_need 44 = .ok (.iconst 3, 1) := by decide +kernel
theorem zd_W_need_45 : decode zb_W_need 45 = .ok (.if_icmp .lt 5, 3) := by decide +kernel
theorem zd_W_need_48 : decode zb_W_need 48 = .ok (.iconst (-1), 1) := by decide +kernel
theorem zd_W_need_49 : decode zb_W_need 49 = .ok (.ireturn, 1) := by decide +kernel
theorem zd_W_need_50 : decode zb_W_need 50 = .ok (.aload_n 0, 1) := by decide +kernel
theorem zd_W_need_51 : decode zb_W_need 51 = .ok (.getfield 19, 3) := by decide +kernel
theorem zd_W_need_54 : decode zb_W_need 54 = .ok (.iload_n 2, 1) := by decide +kernel
theorem zd_W_need_55 : decode zb_W_need 55 = .ok (.iload_n 1, 1) := by decide +kernel
theorem zd_W_need_56 : decode zb_W_need 56 = .ok (.invokevirtual 81, 3) := by decide +kernel
theorem zd_W_need_59 : decode zb_W_need 59 = .ok (.ifCond .eq 6, 3) := by decide +kernel
theorem zd_W_need_62 : decode zb_W_need 62 = .ok (.bipush (-2), 2) := by decide +kernel
theorem zd_W_need_64 : decode zb_W_need 64 = .ok (.ireturn, 1) := by decide +kernel
theorem zd_W_need_65 : decode zb_W_need 65 = .ok (.aload_n 0, 1) := by decide +kernel
theorem zd_W_need_66 : decode zb_W_need 66 = .ok (.getfield 19, 3) := by decide +kernel
theorem zd_W_need_69 : decode zb_W_need 69 = .ok (.iload_n 1, 1) := by decide +kernel
theorem zd_W_need_70 : decode zb_W_need 70 = .ok (.iload_n 2, 1) := by decide +kernel
theorem zd_W_need_71 : decode zb_W_need 71 = .ok (.invokevirtual 84, 3) := by decide +kernel
theorem zd_W_need_74 : decode zb_W_need 74 = .ok (.aload_n 0, 1) := by decide +kernel
theorem zd_W_need_75 : decode zb_W_need 75 = .ok (.iload_n 1, 1) := by decide +kernel
theorem zd_W_need_76 : decode zb_W_need 76 = .ok (.invokevirtual 88, 3) := by decide +kernel
theorem zd_W_need_79 : decode zb_W_need 79 = .ok (.iconst 1, 1) := by decide +kernel
theorem zd_W_need_80 : decode zb_W_need 80 = .ok (.ireturn, 1) := by decide +kernel
theorem zd_A_has_0 : decode zb_A_has 0 = .ok (.iload_n 1, 1) := by decide +kernel
theorem zd_A_has_1 : decode zb_A_has 1 = .ok (.ifCond .lt 15, 3) := by decide +kernel
theorem zd_A_has_4 : decode zb_A_has 4 = .ok (.iload_n 1, 1) := by decide +kernel
theorem zd_A_has_5 : decode zb_A_has 5 = .ok (.aload_n 0, 1) := by decide +kernel
theorem zd_A_has_6 : decode zb_A_has 6 = .ok (.getfield 36, 3) := by decide +kernel
theorem zd_A_has_9 : decode zb_A_has 9 = .ok (.if_icmp .ge 7, 3) := by decide +kernel
theorem zd_A_has_12 : decode zb_A_has 12 = .ok (.iconst 1, 1) := by decide +kernel
theorem zd_A_has_13 : decode zb_A_has 13 = .ok (.goto 4, 3) := by decide +kernel
theorem zd_A_has_16 : decode zb_A_has 16 = .ok (.iconst 0, 1) := by decide +kernel
theorem zd_A_has_17 : decode zb_A_has 17 = .ok (.ireturn, 1) := by decide +kernel
theorem zd_A_needsDirectly_0 : decode zb_A_needsDirectly 0 = .ok (.iconst 0, 1) := by decide +kernel
theorem zd_A_needsDirectly_1 : decode zb_A_needsDirectly 1 = .ok (.istore_n 3, 1) := by decide +kernel
theorem zd_A_needsDirectly_2 : decode zb_A_needsDirectly 2 = .ok (.iload_n 3, 1) := by decide +kernel
theorem zd_A_needsDirectly_3 : decode zb_A_needsDirectly 3 = .ok (.aload_n 0, 1) := by decide +kernel
theorem zd_A_needsDirectly_4 : decode zb_A_needsDirectly 4 = .ok (.getfield 30, 3) := by decide +kernel
theorem zd_A_needsDirectly_7 : decode zb_A_needsDirectly 7 = .ok (.iload_n 1, 1) := by decide +kernel
theorem zd_A_needsDirectly_8 : decode zb_A_needsDirectly 8 = .ok (.iaload, 1) := by decide +kernel
theorem zd_A_needsDirectly_9 : decode zb_A_needsDirectly 9 = .ok (.if_icmp .ge 21, 3) := by decide +kernel
theorem zd_A_needsDirectly_12 : decode zb_A_needsDirectly 12 = .ok (.aload_n 0, 1) := by decide +kernel
theorem zd_A_needsDirectly_13 : decode zb_A_needsDirectly 13 = .ok (.iload_n 1, 1) := by decide +kernel
theorem zd_A_needsDirectly_14 : decode zb_A_needsDirectly 14 = .ok (.iload_n 3, 1) := by decide +kernel
theorem zd_A_needsDirectly_15 : decode zb_A_needsDirectly 15 = .ok (.invokevirtual 40, 3) := by decide +kernel
theorem zd_A_needsDirectly_18 : decode zb_A_needsDirectly 18 = .ok (.iload_n 2, 1) := by decide +kernel
theorem zd_A_needsDirectly_19 : decode zb_A_needsDirectly 19 = .ok (.if_icmp .ne 5, 3) := by decide +kernel
theorem zd_A_needsDirectly_22 : decode zb_A_needsDirectly 22 = .ok (.iconst 1, 1) := by decide +kernel
theorem zd_A_needsDirectly_23 : decode zb_A_needsDirectly 23 = .ok (.ireturn, 1) := by decide +kernel
theorem zd_A_needsDirectly_24 : decode zb_A_needsDirectly 24 = .ok (.iinc 3 1, 3) := by decide +kernel
theorem zd_A_needsDirectly_27 : decode zb_A_needsDirectly 27 = .ok (.goto (-25), 3) := by decide +kernel
theorem zd_A_needsDirectly_30 : decode zb_A_needsDirectly 30 = .ok (.iconst 0, 1) := by decide +kernel
theorem zd_A_needsDirectly_31 : decode zb_A_needsDirectly 31 = .ok (.ireturn, 1) := by decide +kernel
theorem zd_A_needAt_0 : decode zb_A_needAt 0 = .ok (.aload_n 0, 1) := by decide +kernel
theorem zd_A_needAt_1 : decode zb_A_needAt 1 = .ok (.getfield 27, 3) := by decide +kernel
theorem zd_A_needAt_4 : decode zb_A_needAt 4 = .ok (.iload_n 1, 1) := by decide +kernel
theorem zd_A_needAt_5 : decode zb_A_needAt 5 = .ok (.iconst 3, 1) := by decide +kernel
theorem zd_A_needAt_6 : decode zb_A_needAt 6 = .ok (.imul, 1) := by decide +kernel
theorem zd_A_needAt_7 : decode zb_A_needAt 7 = .ok (.iload_n 2, 1) := by decide +kernel
theorem zd_A_needAt_8 : decode zb_A_needAt 8 = .ok (.iadd, 1) := by decide +kernel
theorem zd_A_needAt_9 : decode zb_A_needAt 9 = .ok (.iaload, 1) := by decide +kernel
theorem zd_A_needAt_10 : decode zb_A_needAt 10 = .ok (.ireturn, 1) := by decide +kernel
theorem zd_A_needCount_0 : decode zb_A_needCount 0 = .ok (.aload_n 0, 1) := by decide +kernel
theorem zd_A_needCount_1 : decode zb_A_needCount 1 = .ok (.getfield 30, 3) := by decide +kernel
theorem zd_A_needCount_4 : decode zb_A_needCount 4 = .ok (.iload_n 1, 1) := by decide +kernel
theorem zd_A_needCount_5 : decode zb_A_needCount 5 = .ok (.iaload, 1) := by decide +kernel
theorem zd_A_needCount_6 : decode zb_A_needCount 6 = .ok (.ireturn, 1) := by decide +kernel
theorem zd_A_leadsTo_0 : decode zb_A_leadsTo 0 = .ok (.aload_n 0, 1) := by decide +kernel
theorem zd_A_leadsTo_1 : decode zb_A_leadsTo 1 = .ok (.getfield 33, 3) := by decide +kernel
theorem zd_A_leadsTo_4 : decode zb_A_leadsTo 4 = .ok (.iload_n 1, 1) := by decide +kernel
theorem zd_A_leadsTo_5 : decode zb_A_leadsTo 5 = .ok (.iaload, 1) := by decide +kernel
theorem zd_A_leadsTo_6 : decode zb_A_leadsTo 6 = .ok (.iload_n 2, 1) := by decide +kernel
theorem zd_A_leadsTo_7 : decode zb_A_leadsTo 7 = .ok (.ishr, 1) := by decide +kernel
theorem zd_A_leadsTo_8 : decode zb_A_leadsTo 8 = .ok (.iconst 1, 1) := by decide +kernel
theorem zd_A_leadsTo_9 : decode zb_A_leadsTo 9 = .ok (.iand, 1) := by decide +kernel
theorem zd_A_leadsTo_10 : decode zb_A_leadsTo 10 = .ok (.ifCond .eq 7, 3) := by decide +kernel
theorem zd_A_leadsTo_13 : decode zb_A_leadsTo 13 = .ok (.iconst 1, 1) := by decide +kernel
theorem zd_A_leadsTo_14 : decode zb_A_leadsTo 14 = .ok (.goto 4, 3) := by decide +kernel
theorem zd_A_leadsTo_17 : decode zb_A_leadsTo 17 = .ok (.iconst 0, 1) := by decide +kernel
theorem zd_A_leadsTo_18 : decode zb_A_leadsTo 18 = .ok (.ireturn, 1) := by decide +kernel
theorem zd_A_appendNeed_0 : decode zb_A_appendNeed 0 = .ok (.aload_n 0, 1) := by decide +kernel
theorem zd_A_appendNeed_1 : decode zb_A_appendNeed 1 = .ok (.getfield 27, 3) := by decide +kernel
theorem zd_A_appendNeed_4 : decode zb_A_appendNeed 4 = .ok (.iload_n 1, 1) := by decide +kernel
theorem zd_A_appendNeed_5 : decode zb_A_appendNeed 5 = .ok (.iconst 3, 1) := by decide +kernel
theorem zd_A_appendNeed_6 : decode zb_A_appendNeed 6 = .ok (.imul, 1) := by decide +kernel
theorem zd_A_appendNeed_7 : decode zb_A_appendNeed 7 = .ok (.aload_n 0, 1) := by decide +kernel
theorem zd_A_appendNeed_8 : decode zb_A_appendNeed 8 = .ok (.getfield 30, 3) := by decide +kernel
theorem zd_A_appendNeed_11 : decode zb_A_appendNeed 11 = .ok (.iload_n 1, 1) := by decide +kernel
theorem zd_A_appendNeed_12 : decode zb_A_appendNeed 12 = .ok (.iaload, 1) := by decide +kernel
theorem zd_A_appendNeed_13 : decode zb_A_appendNeed 13 = .ok (.iadd, 1) := by decide +kernel
theorem zd_A_appendNeed_14 : decode zb_A_appendNeed 14 = .ok (.iload_n 2, 1) := by decide +kernel
theorem zd_A_appendNeed_15 : decode zb_A_appendNeed 15 = .ok (.iastore, 1) := by decide +kernel
theorem zd_A_appendNeed_16 : decode zb_A_appendNeed 16 = .ok (.aload_n 0, 1) := by decide +kernel
theorem zd_A_appendNeed_17 : decode zb_A_appendNeed 17 = .ok (.getfield 30, 3) := by decide +kernel
theorem zd_A_appendNeed_20 : decode zb_A_appendNeed 20 = .ok (.iload_n 1, 1) := by decide +kernel
theorem zd_A_appendNeed_21 : decode zb_A_appendNeed 21 = .ok (.dup2, 1) := by decide +kernel
theorem zd_A_appendNeed_22 : decode zb_A_appendNeed 22 = .ok (.iaload, 1) := by decide +kernel
theorem zd_A_appendNeed_23 : decode zb_A_appendNeed 23 = .ok (.iconst 1, 1) := by decide +kernel
theorem zd_A_appendNeed_24 : decode zb_A_appendNeed 24 = .ok (.iadd, 1) := by decide +kernel
theorem zd_A_appendNeed_25 : decode zb_A_appendNeed 25 = .ok (.iastore, 1) := by decide +kernel
theorem zd_A_appendNeed_26 : decode zb_A_appendNeed 26 = .ok (.iconst 0, 1) := by decide +kernel
theorem zd_A_appendNeed_27 : decode zb_A_appendNeed 27 = .ok (.istore_n 3, 1) := by decide +kernel
theorem zd_A_appendNeed_28 : decode zb_A_appendNeed 28 = .ok (.iload_n 3, 1) := by decide +kernel
theorem zd_A_appendNeed_29 : decode zb_A_appendNeed 29 = .ok (.aload_n 0, 1) := by decide +kernel
theorem zd_A_appendNeed_30 : decode zb_A_appendNeed 30 = .ok (.getfield 36, 3) := by decide +kernel
theorem zd_A_appendNeed_33 : decode zb_A_appendNeed 33 = .ok (.if_icmp .ge 33, 3) := by decide +kernel
theorem zd_A_appendNeed_36 : decode zb_A_appendNeed 36 = .ok (.aload_n 0, 1) := by decide +kernel
theorem zd_A_appendNeed_37 : decode zb_A_appendNeed 37 = .ok (.iload_n 3, 1) := by decide +kernel
theorem zd_A_appendNeed_38 : decode zb_A_appendNeed 38 = .ok (.iload_n 1, 1) := by decide +kernel
theorem zd_A_appendNeed_39 : decode zb_A_appendNeed 39 = .ok (.invokevirtual 44, 3) := by decide +kernel
theorem zd_A_appendNeed_42 : decode zb_A_appendNeed 42 = .ok (.ifCond .eq 18, 3) := by decide +kernel
theorem zd_A_appendNeed_45 : decode zb_A_appendNeed 45 = .ok (.aload_n 0, 1) := by decide +kernel
theorem zd_A_appendNeed_46 : decode zb_A_appendNeed 46 = .ok (.getfield 33, 3) := by decide +kernel
theorem zd_A_appendNeed_49 : decode zb_A_appendNeed 49 = .ok (.iload_n 3, 1) := by decide +kernel
theorem zd_A_appendNeed_50 : decode zb_A_appendNeed 50 = .ok (.dup2, 1) := by decide +kernel
theorem zd_A_appendNeed_51 : decode zb_A_appendNeed 51 = .ok (.iaload, 1) := by decide +kernel
theorem zd_A_appendNeed_52 : decode zb_A_appendNeed 52 = .ok (.aload_n 0, 1) := by decide +kernel
theorem zd_A_appendNeed_53 : decode zb_A_appendNeed 53 = .ok (.getfield 33, 3) := by decide +kernel
theorem zd_A_appendNeed_56 : decode zb_A_appendNeed 56 = .ok (.iload_n 2, 1) := by decide +kernel
theorem zd_A_appendNeed_57 : decode zb_A_appendNeed 57 = .ok (.iaload, 1) := by decide +kernel
theorem zd_A_appendNeed_58 : decode zb_A_appendNeed 58 = .ok (.ior, 1) := by decide +kernel
theorem zd_A_appendNeed_59 : decode zb_A_appendNeed 59 = .ok (.iastore, 1) := by decide +kernel
theorem zd_A_appendNeed_60 : decode zb_A_appendNeed 60 = .ok (.iinc 3 1, 3) := by decide +kernel
theorem zd_A_appendNeed_63 : decode zb_A_appendNeed 63 = .ok (.goto (-35), 3) := by decide +kernel
theorem zd_A_appendNeed_66 : decode zb_A_appendNeed 66 = .ok (.return_, 1) := by decide +kernel
theorem zd_W_forgetAllOf_0 : decode zb_W_forgetAllOf 0 = .ok (.iconst 0, 1) := by decide +kernel
theorem zd_W_forgetAllOf_1 : decode zb_W_forgetAllOf 1 = .ok (.istore_n 2, 1) := by decide +kernel
theorem zd_W_forgetAllOf_2 : decode zb_W_forgetAllOf 2 = .ok (.iload_n 2, 1) := by decide +kernel
theorem zd_W_forgetAllOf_3 : decode zb_W_forgetAllOf 3 = .ok (.aload_n 0, 1) := by decide +kernel
theorem zd_W_forgetAllOf_4 : decode zb_W_forgetAllOf 4 = .ok (.getfield 19, 3) := by decide +kernel
theorem zd_W_forgetAllOf_7 : decode zb_W_forgetAllOf 7 = .ok (.invokevirtual 216, 3) := by decide +kernel
theorem zd_W_forgetAllOf_10 : decode zb_W_forgetAllOf 10 = .ok (.if_icmp .ge 57, 3) := by decide +kernel
theorem zd_W_forgetAllOf_13 : decode zb_W_forgetAllOf 13 = .ok (.aload_n 0, 1) := by decide +kernel
theorem zd_W_forgetAllOf_14 : decode zb_W_forgetAllOf 14 = .ok (.getfield 19, 3) := by decide +kernel
theorem zd_W_forgetAllOf_17 : decode zb_W_forgetAllOf 17 = .ok (.iload_n 2, 1) := by decide +kernel
theorem zd_W_forgetAllOf_18 : decode zb_W_forgetAllOf 18 = .ok (.iload_n 1, 1) := by decide +kernel
theorem zd_W_forgetAllOf_19 : decode zb_W_forgetAllOf 19 = .ok (.invokevirtual 81, 3) := by decide +kernel
theorem zd_W_forgetAllOf_22 : decode zb_W_forgetAllOf 22 = .ok (.ifCond .eq 39, 3) := by decide +kernel
theorem zd_W_forgetAllOf_25 : decode zb_W_forgetAllOf 25 = .ok (.iconst 0, 1) := by decide +kernel
theorem zd_W_forgetAllOf_26 : decode zb_W_forgetAllOf 26 = .ok (.istore_n 3, 1) := by decide +kernel
theorem zd_W_forgetAllOf_27 : decode zb_W_forgetAllOf 27 = .ok (.iload_n 3, 1) := by decide +kernel
theorem zd_W_forgetAllOf_28 : decode zb_W_forgetAllOf 28 = .ok (.aload_n 0, 1) := by decide +kernel
theorem zd_W_forgetAllOf_29 : decode zb_W_forgetAllOf 29 = .ok (.getfield 12, 3) := by decide +kernel
theorem zd_W_forgetAllOf_32 : decode zb_W_forgetAllOf 32 = .ok (.invokevirtual 212, 3) := by decide +kernel
theorem zd_W_forgetAllOf_35 : decode zb_W_forgetAllOf 35 = .ok (.if_icmp .ge 26, 3) := by decide +kernel
theorem zd_W_forgetAllOf_38 : decode zb_W_forgetAllOf 38 = .ok (.aload_n 0, 1) := by decide +kernel
theorem zd_W_forgetAllOf_39 : decode zb_W_forgetAllOf 39 = .ok (.getfield 26, 3) := by decide +kernel
theorem zd_W_forgetAllOf_42 : decode zb_W_forgetAllOf 42 = .ok (.iload_n 3, 1) := by decide +kernel
theorem zd_W_forgetAllOf_43 : decode zb_W_forgetAllOf 43 = .ok (.iload_n 2, 1) := by decide +kernel
theorem zd_W_forgetAllOf_44 : decode zb_W_forgetAllOf 44 = .ok (.aload_n 0, 1) := by decide +kernel
theorem zd_W_forgetAllOf_45 : decode zb_W_forgetAllOf 45 = .ok (.getfield 19, 3) := by decide +kernel
theorem zd_W_forgetAllOf_48 : decode zb_W_forgetAllOf 48 = .ok (.iload_n 2, 1) := by decide +kernel
theorem zd_W_forgetAllOf_49 : decode zb_W_forgetAllOf 49 = .ok (.invokevirtual 176, 3) := by decide +kernel
theorem zd_W_forgetAllOf_52 : decode zb_W_forgetAllOf 52 = .ok (.invokevirtual 217, 3) := by decide +kernel
theorem zd_W_forgetAllOf_55 : decode zb_W_forgetAllOf 55 = .ok (.iinc 3 1, 3) := by decide +kernel
theorem zd_W_forgetAllOf_58 : decode zb_W_forgetAllOf 58 = .ok (.goto (-31), 3) := by decide +kernel
theorem zd_W_forgetAllOf_61 : decode zb_W_forgetAllOf 61 = .ok (.iinc 2 1, 3) := by decide +kernel
theorem zd_W_forgetAllOf_64 : decode zb_W_forgetAllOf 64 = .ok (.goto (-62), 3) := by decide +kernel
theorem zd_W_forgetAllOf_67 : decode zb_W_forgetAllOf 67 = .ok (.return_, 1) := by decide +kernel
theorem zd_W_apply_0 : decode zb_W_apply 0 = .ok (.aload_n 0, 1) := by decide +kernel
theorem zd_W_apply_1 : decode zb_W_apply 1 = .ok (.iload_n 1, 1) := by decide +kernel
theorem zd_W_apply_2 : decode zb_W_apply 2 = .ok (.iload_n 2, 1) := by decide +kernel
theorem zd_W_apply_3 : decode zb_W_apply 3 = .ok (.iload_n 3, 1) := by decide +kernel
theorem zd_W_apply_4 : decode zb_W_apply 4 = .ok (.invokevirtual 91, 3) := by decide +kernel
theorem zd_W_apply_7 : decode zb_W_apply 7 = .ok (.ifCond .ne 5, 3) := by decide +kernel
theorem zd_W_apply_10 : decode zb_W_apply 10 = .ok (.iconst (-1), 1) := by decide +kernel
theorem zd_W_apply_11 : decode zb_W_apply 11 = .ok (.ireturn, 1) := by decide +kernel
theorem zd_W_apply_12 : decode zb_W_apply 12 = .ok (.aload_n 0, 1) := by decide +kernel
theorem zd_W_apply_13 : decode zb_W_apply 13 = .ok (.aload_n 0, 1) := by decide +kernel
theorem zd_W_apply_14 : decode zb_W_apply 14 = .ok (.getfield 12, 3) := by decide +kernel
theorem zd_W_apply_17 : decode zb_W_apply 17 = .ok (.iload_n 1, 1) := by decide +kernel
theorem zd_W_apply_18 : decode zb_W_apply 18 = .ok (.invokevirtual 52, 3) := by decide +kernel
theorem zd_W_apply_21 : decode zb_W_apply 21 = .ok (.iload_n 2, 1) := by decide +kernel
theorem zd_W_apply_22 : decode zb_W_apply 22 = .ok (.iload_n 3, 1) := by decide +kernel
theorem zd_W_apply_23 : decode zb_W_apply 23 = .ok (.iconst 0, 1) := by decide +kernel
theorem zd_W_apply_24 : decode zb_W_apply 24 = .ok (.invokevirtual 94, 3) := by decide +kernel
theorem zd_W_apply_27 : decode zb_W_apply 27 = .ok (.ireturn, 1) := by decide +kernel
theorem zd_W_isAsked_0 : decode zb_W_isAsked 0 = .ok (.aload_n 0, 1) := by decide +kernel
theorem zd_W_isAsked_1 : decode zb_W_isAsked 1 = .ok (.getfield 12, 3) := by decide +kernel
theorem zd_W_isAsked_4 : decode zb_W_isAsked 4 = .ok (.iload_n 1, 1) := by decide +kernel
theorem zd_W_isAsked_5 : decode zb_W_isAsked 5 = .ok (.invokevirtual 44, 3) := by decide +kernel
theorem zd_W_isAsked_8 : decode zb_W_isAsked 8 = .ok (.ifCond .eq 28, 3) := by decide +kernel
theorem zd_W_isAsked_11 : decode zb_W_isAsked 11 = .ok (.aload_n 0, 1) := by decide +kernel
theorem zd_W_isAsked_12 : decode zb_W_isAsked 12 = .ok (.getfield 19, 3) := by decide +kernel
theorem zd_W_isAsked_15 : decode zb_W_isAsked 15 = .ok (.iload_n 2, 1) := by decide +kernel
theorem zd_W_isAsked_16 : decode zb_W_isAsked 16 = .ok (.invokevirtual 73, 3) := by decide +kernel
theorem zd_W_isAsked_19 : decode zb_W_isAsked 19 = .ok (.ifCond .eq 17, 3) := by decide +kernel
theorem zd_W_isAsked_22 : decode zb_W_isAsked 22 = .ok (.iload_n 3, 1) := by decide +kernel
theorem zd_W_isAsked_23 : decode zb_W_isAsked 23 = .ok (.ifCond .lt 13, 3) := by decide +kernel
theorem zd_W_isAsked_26 : decode zb_W_isAsked 26 = .ok (.iload_n 3, 1) := by decide +kernel
theorem zd_W_isAsked_27 : decode zb_W_isAsked 27 = .ok (.bipush 16, 2) := by decide +kernel
theorem zd_W_isAsked_29 : decode zb_W_isAsked 29 = .ok (.if_icmp .ge 7, 3) := by decide +kernel
theorem zd_W_isAsked_32 : decode zb_W_isAsked 32 = .ok (.iconst 1, 1) := by decide +kernel
theorem zd_W_isAsked_33 : decode zb_W_isAsked 33 = .ok (.goto 4, 3) := by decide +kernel
theorem zd_W_isAsked_36 : decode zb_W_isAsked 36 = .ok (.iconst 0, 1) := by decide +kernel
theorem zd_W_isAsked_37 : decode zb_W_isAsked 37 = .ok (.ireturn, 1) := by decide +kernel
theorem zd_W_doing_0 : decode zb_W_doing 0 = .ok (.iload 4, 2) := by decide +kernel
theorem zd_W_doing_2 : decode zb_W_doing 2 = .ok (.bipush 28, 2) := by decide +kernel
theorem zd_W_doing_4 : decode zb_W_doing 4 = .ok (.if_icmp .le 5, 3) := by decide +kernel
theorem zd_W_doing_7 : decode zb_W_doing 7 = .ok (.iconst (-1), 1) := by decide +kernel
theorem zd_W_doing_8 : decode zb_W_doing 8 = .ok (.ireturn, 1) := by decide +kernel
theorem zd_W_doing_9 : decode zb_W_doing 9 = .ok (.aload_n 0, 1) := by decide +kernel
theorem zd_W_doing_10 : decode zb_W_doing 10 = .ok (.getfield 26, 3) := by decide +kernel
theorem zd_W_doing_13 : decode zb_W_doing 13 = .ok (.iload_n 1, 1) := by decide +kernel
theorem zd_W_doing_14 : decode zb_W_doing 14 = .ok (.iload_n 2, 1) := by decide +kernel
theorem zd_W_doing_15 : decode zb_W_doing 15 = .ok (.iload_n 3, 1) := by decide +kernel
theorem zd_W_doing_16 : decode zb_W_doing 16 = .ok (.invokevirtual 98, 3) := by decide +kernel
theorem zd_W_doing_19 : decode zb_W_doing 19 = .ok (.istore 5, 2) := by decide +kernel
theorem zd_W_doing_21 : decode zb_W_doing 21 = .ok (.iload 5, 2) := by decide +kernel
theorem zd_W_doing_23 : decode zb_W_doing 23 = .ok (.iconst (-1), 1) := by decide +kernel
theorem zd_W_doing_24 : decode zb_W_doing 24 = .ok (.if_icmp .eq 6, 3) := by decide +kernel
theorem zd_W_doing_27 : decode zb_W_doing 27 = .ok (.iload 5, 2) := by decide +kernel
theorem zd_W_doing_29 : decode zb_W_doing 29 = .ok (.ireturn, 1) := by decide +kernel
theorem zd_W_doing_30 : decode zb_W_doing 30 = .ok (.aload_n 0, 1) := by decide +kernel
theorem zd_W_doing_31 : decode zb_W_doing 31 = .ok (.iload_n 1, 1) := by decide +kernel
theorem zd_W_doing_32 : decode zb_W_doing 32 = .ok (.iload_n 2, 1) := by decide +kernel
theorem zd_W_doing_33 : decode zb_W_doing 33 = .ok (.iload_n 3, 1) := by decide +kernel
theorem zd_W_doing_34 : decode zb_W_doing 34 = .ok (.iload 4, 2) := by decide +kernel
theorem zd_W_doing_36 : decode zb_W_doing 36 = .ok (.invokevirtual 129, 3) := by decide +kernel
theorem zd_W_doing_39 : decode zb_W_doing 39 = .ok (.istore 6, 2) := by decide +kernel
theorem zd_W_doing_41 : decode zb_W_doing 41 = .ok (.iload 6, 2) := by decide +kernel
theorem zd_W_doing_43 : decode zb_W_doing 43 = .ok (.ifCond .ge 6, 3) := by decide +kernel
theorem zd_W_doing_46 : decode zb_W_doing 46 = .ok (.iload 6, 2) := by decide +kernel
theorem zd_W_doing_48 : decode zb_W_doing 48 = .ok (.ireturn, 1) := by decide +kernel
theorem zd_W_doing_49 : decode zb_W_doing 49 = .ok (.aload_n 0, 1) := by decide +kernel
theorem zd_W_doing_50 : decode zb_W_doing 50 = .ok (.iload_n 1, 1) := by decide +kernel
theorem zd_W_doing_51 : decode zb_W_doing 51 = .ok (.iload_n 2, 1) := by decide +kernel
theorem zd_W_doing_52 : decode zb_W_doing 52 = .ok (.iload_n 3, 1) := by decide +kernel
theorem zd_W_doing_53 : decode zb_W_doing 53 = .ok (.invokevirtual 132, 3) := by decide +kernel
theorem zd_W_doing_56 : decode zb_W_doing 56 = .ok (.ifCond .eq 15, 3) := by decide +kernel
theorem zd_W_doing_59 : decode zb_W_doing 59 = .ok (.aload_n 0, 1) := by decide +kernel
theorem zd_W_doing_60 : decode zb_W_doing 60 = .ok (.getfield 26, 3) := by decide +kernel
theorem zd_W_doing_63 : decode zb_W_doing 63 = .ok (.iload_n 1, 1) := by decide +kernel
theorem zd_W_doing_64 : decode zb_W_doing 64 = .ok (.iload_n 2, 1) := by decide +kernel
theorem zd_W_doing_65 : decode zb_W_doing 65 = .ok (.iload_n 3, 1) := by decide +kernel
theorem zd_W_doing_66 : decode zb_W_doing 66 = .ok (.invokevirtual 135, 3) := by decide +kernel
theorem zd_W_doing_69 : decode zb_W_doing 69 = .ok (.iconst 0, 1) := by decide +kernel
theorem zd_W_doing_70 : decode zb_W_doing 70 = .ok (.ireturn, 1) := by decide +kernel
theorem zd_W_doing_71 : decode zb_W_doing 71 = .ok (.aload_n 0, 1) := by decide +kernel
theorem zd_W_doing_72 : decode zb_W_doing 72 = .ok (.iload_n 1, 1) := by decide +kernel
theorem zd_W_doing_73 : decode zb_W_doing 73 = .ok (.iload_n 2, 1) := by decide +kernel
theorem zd_W_doing_74 : decode zb_W_doing 74 = .ok (.iload_n 3, 1) := by decide +kernel
theorem zd_W_doing_75 : decode zb_W_doing 75 = .ok (.iload 4, 2) := by decide +kernel
theorem zd_W_doing_77 : decode zb_W_doing 77 = .ok (.invokevirtual 139, 3) := by decide +kernel
theorem zd_W_doing_80 : decode zb_W_doing 80 = .ok (.istore 7, 2) := by decide +kernel
theorem zd_W_doing_82 : decode zb_W_doing 82 = .ok (.iload 7, 2) := by decide +kernel
theorem zd_W_doing_84 : decode zb_W_doing 84 = .ok (.ifCond .ge 6, 3) := by decide +kernel
theorem zd_W_doing_87 : decode zb_W_doing 87 = .ok (.iload 7, 2) := by decide +kernel
theorem zd_W_doing_89 : decode zb_W_doing 89 = .ok (.ireturn, 1) := by decide +kernel
theorem zd_W_doing_90 : decode zb_W_doing 90 = .ok (.aload_n 0, 1) := by decide +kernel
theorem zd_W_doing_91 : decode zb_W_doing 91 = .ok (.iload_n 1, 1) := by decide +kernel
theorem zd_W_doing_92 : decode zb_W_doing 92 = .ok (.iload_n 2, 1) := by decide +kernel
theorem zd_W_doing_93 : decode zb_W_doing 93 = .ok (.iload_n 3, 1) := by decide +kernel
theorem zd_W_doing_94 : decode zb_W_doing 94 = .ok (.invokevirtual 142, 3) := by decide +kernel
theorem zd_W_doing_97 : decode zb_W_doing 97 = .ok (.ifCond .ne 6, 3) := by decide +kernel
theorem zd_W_doing_100 : decode zb_W_doing 100 = .ok (.bipush (-2), 2) := by decide +kernel
theorem zd_W_doing_102 : decode zb_W_doing 102 = .ok (.ireturn, 1) := by decide +kernel
theorem zd_W_doing_103 : decode zb_W_doing 103 = .ok (.aload_n 0, 1) := by decide +kernel
theorem zd_W_doing_104 : decode zb_W_doing 104 = .ok (.getfield 26, 3) := by decide +kernel
theorem zd_W_doing_107 : decode zb_W_doing 107 = .ok (.iload_n 1, 1) := by decide +kernel
theorem zd_W_doing_108 : decode zb_W_doing 108 = .ok (.iload_n 2, 1) := by decide +kernel
theorem zd_W_doing_109 : decode zb_W_doing 109 = .ok (.iload_n 3, 1) := by decide +kernel
theorem zd_W_doing_110 : decode zb_W_doing 110 = .ok (.aload_n 0, 1) := by decide +kernel
theorem zd_W_doing_111 : decode zb_W_doing 111 = .ok (.iload_n 1, 1) := by decide +kernel
theorem zd_W_doing_112 : decode zb_W_doing 112 = .ok (.iload_n 2, 1) := by decide +kernel
theorem zd_W_doing_113 : decode zb_W_doing 113 = .ok (.iload_n 3, 1) := by decide +kernel
theorem zd_W_doing_114 : decode zb_W_doing 114 = .ok (.invokevirtual 145, 3) := by decide +kernel
theorem zd_W_doing_117 : decode zb_W_doing 117 = .ok (.invokevirtual 148, 3) := by decide +kernel
theorem zd_W_doing_120 : decode zb_W_doing 120 = .ok (.iconst 1, 1) := by decide +kernel
theorem zd_W_doing_121 : decode zb_W_doing 121 = .ok (.ireturn, 1) := by decide +kernel
theorem zd_M_known_0 : decode zb_M_known 0 = .ok (.iload_n 1, 1) := by decide +kernel
theorem zd_M_known_1 : decode zb_M_known 1 = .ok (.iload_n 2, 1) := by decide +kernel
theorem zd_M_known_2 : decode zb_M_known 2 = .ok (.invokestatic 37, 3) := by decide +kernel
theorem zd_M_known_5 : decode zb_M_known 5 = .ok (.istore 4, 2) := by decide +kernel
theorem zd_M_known_7 : decode zb_M_known 7 = .ok (.aload_n 0, 1) := by decide +kernel
theorem zd_M_known_8 : decode zb_M_known 8 = .ok (.getfield 11, 3) := by decide +kernel
theorem zd_M_known_11 : decode zb_M_known 11 = .ok (.iload 4, 2) := by decide +kernel
theorem zd_M_known_13 : decode zb_M_known 13 = .ok (.iaload, 1) := by decide +kernel
theorem zd_M_known_14 : decode zb_M_known 14 = .ok (.iload_n 3, 1) := by decide +kernel
theorem zd_M_known_15 : decode zb_M_known 15 = .ok (.ishr, 1) := by decide +kernel
theorem zd_M_known_16 : decode zb_M_known 16 = .ok (.iconst 1, 1) := by decide +kernel
theorem zd_M_known_17 : decode zb_M_known 17 = .ok (.iand, 1) := by decide +kernel
theorem zd_M_known_18 : decode zb_M_known 18 = .ok (.ifCond .eq 5, 3) := by decide +kernel
theorem zd_M_known_21 : decode zb_M_known 21 = .ok (.iconst 1, 1) := by decide +kernel
theorem zd_M_known_22 : decode zb_M_known 22 = .ok (.ireturn, 1) := by decide +kernel
theorem zd_M_known_23 : decode zb_M_known 23 = .ok (.aload_n 0, 1) := by decide +kernel
theorem zd_M_known_24 : decode zb_M_known 24 = .ok (.getfield 15, 3) := by decide +kernel
theorem zd_M_known_27 : decode zb_M_known 27 = .ok (.iload 4, 2) := by decide +kernel
theorem zd_M_known_29 : decode zb_M_known 29 = .ok (.iaload, 1) := by decide +kernel
theorem zd_M_known_30 : decode zb_M_known 30 = .ok (.iload_n 3, 1) := by decide +kernel
theorem zd_M_known_31 : decode zb_M_known 31 = .ok (.ishr, 1) := by decide +kernel
theorem zd_M_known_32 : decode zb_M_known 32 = .ok (.iconst 1, 1) := by decide +kernel
theorem zd_M_known_33 : decode zb_M_known 33 = .ok (.iand, 1) := by decide +kernel
theorem zd_M_known_34 : decode zb_M_known 34 = .ok (.ifCond .eq 7, 3) := by decide +kernel
theorem zd_M_known_37 : decode zb_M_known 37 = .ok (.iconst 0, 1) := by decide +kernel
theorem zd_M_known_38 : decode zb_M_known 38 = .ok (.goto 4, 3) := by decide +kernel
theorem zd_M_known_41 : decode zb_M_known 41 = .ok (.iconst (-1), 1) := by decide +kernel
theorem zd_M_known_42 : decode zb_M_known 42 = .ok (.ireturn, 1) := by decide +kernel
theorem zd_W_doNeeds_0 : decode zb_W_doNeeds 0 = .ok (.iconst 0, 1) := by decide +kernel
theorem zd_W_doNeeds_1 : decode zb_W_doNeeds 1 = .ok (.istore 5, 2) := by decide +kernel
theorem zd_W_doNeeds_3 : decode zb_W_doNeeds 3 = .ok (.iload 5, 2) := by decide +kernel
theorem zd_W_doNeeds_5 : decode zb_W_doNeeds 5 = .ok (.aload_n 0, 1) := by decide +kernel
theorem zd_W_doNeeds_6 : decode zb_W_doNeeds 6 = .ok (.getfield 19, 3) := by decide +kernel
theorem zd_W_doNeeds_9 : decode zb_W_doNeeds 9 = .ok (.iload_n 2, 1) := by decide +kernel
theorem zd_W_doNeeds_10 : decode zb_W_doNeeds 10 = .ok (.invokevirtual 78, 3) := by decide +kernel
theorem zd_W_doNeeds_13 : decode zb_W_doNeeds 13 = .ok (.if_icmp .ge 39, 3) := by decide +kernel
theorem zd_W_doNeeds_16 : decode zb_W_doNeeds 16 = .ok (.aload_n 0, 1) := by decide +kernel
theorem zd_W_doNeeds_17 : decode zb_W_doNeeds 17 = .ok (.iload_n 1, 1) := by decide +kernel
theorem zd_W_doNeeds_18 : decode zb_W_doNeeds 18 = .ok (.aload_n 0, 1) := by decide +kernel
theorem zd_W_doNeeds_19 : decode zb_W_doNeeds 19 = .ok (.getfield 19, 3) := by decide +kernel
theorem zd_W_doNeeds_22 : decode zb_W_doNeeds 22 = .ok (.iload_n 2, 1) := by decide +kernel
theorem zd_W_doNeeds_23 : decode zb_W_doNeeds 23 = .ok (.iload 5, 2) := by decide +kernel
theorem zd_W_doNeeds_25 : decode zb_W_doNeeds 25 = .ok (.invokevirtual 152, 3) := by decide +kernel
theorem zd_W_doNeeds_28 : decode zb_W_doNeeds 28 = .ok (.iload_n 3, 1) := by decide +kernel
theorem zd_W_doNeeds_29 : decode zb_W_doNeeds 29 = .ok (.iload 4, 2) := by decide +kernel
theorem zd_W_doNeeds_31 : decode zb_W_doNeeds 31 = .ok (.iconst 1, 1) := by decide +kernel
theorem zd_W_doNeeds_32 : decode zb_W_doNeeds 32 = .ok (.iadd, 1) := by decide +kernel
theorem zd_W_doNeeds_33 : decode zb_W_doNeeds 33 = .ok (.invokevirtual 94, 3) := by decide +kernel
theorem zd_W_doNeeds_36 : decode zb_W_doNeeds 36 = .ok (.istore 6, 2) := by decide +kernel
theorem zd_W_doNeeds_38 : decode zb_W_doNeeds 38 = .ok (.iload 6, 2) := by decide +kernel
theorem zd_W_doNeeds_40 : decode zb_W_doNeeds 40 = .ok (.ifCond .ge 6, 3) := by decide +kernel
theorem zd_W_doNeeds_43 : decode zb_W_doNeeds 43 = .ok (.iload 6, 2) := by decide +kernel
theorem zd_W_doNeeds_45 : decode zb_W_doNeeds 45 = .ok (.ireturn, 1) := by decide +kernel
theorem zd_W_doNeeds_46 : decode zb_W_doNeeds 46 = .ok (.iinc 5 1, 3) := by decide +kernel
theorem zd_W_doNeeds_49 : decode zb_W_doNeeds 49 = .ok (.goto (-46), 3) := by decide +kernel
theorem zd_W_doNeeds_52 : decode zb_W_doNeeds 52 = .ok (.iconst 1, 1) := by decide +kernel
theorem zd_W_doNeeds_53 : decode zb_W_doNeeds 53 = .ok (.ireturn, 1) := by decide +kernel
theorem zd_W_lacksProvider_0 : decode zb_W_lacksProvider 0 = .ok (.aload_n 0, 1) := by decide +kernel
theorem zd_W_lacksProvider_1 : decode zb_W_lacksProvider 1 = .ok (.getfield 12, 3) := by decide +kernel
theorem zd_W_lacksProvider_4 : decode zb_W_lacksProvider 4 = .ok (.iload_n 1, 1) := by decide +kernel
theorem zd_W_lacksProvider_5 : decode zb_W_lacksProvider 5 = .ok (.invokevirtual 167, 3) := by decide +kernel
theorem zd_W_lacksProvider_8 : decode zb_W_lacksProvider 8 = .ok (.istore 4, 2) := by decide +kernel
theorem zd_W_lacksProvider_10 : decode zb_W_lacksProvider 10 = .ok (.iconst 0, 1) := by decide +kernel
theorem zd_W_lacksProvider_11 : decode zb_W_lacksProvider 11 = .ok (.istore 5, 2) := by decide +kernel
theorem zd_W_lacksProvider_13 : decode zb_W_lacksProvider 13 = .ok (.iload 5, 2) := by decide +kernel
theorem zd_W_lacksProvider_15 : decode zb_W_lacksProvider 15 = .ok (.aload_n 0, 1) := by decide +kernel
theorem zd_W_lacksProvider_16 : decode zb_W_lacksProvider 16 = .ok (.getfield 19, 3) := by decide +kernel
theorem zd_W_lacksProvider_19 : decode zb_W_lacksProvider 19 = .ok (.iload_n 2, 1) := by decide +kernel
theorem zd_W_lacksProvider_20 : decode zb_W_lacksProvider 20 = .ok (.invokevirtual 78, 3) := by decide +kernel
theorem zd_W_lacksProvider_23 : decode zb_W_lacksProvider 23 = .ok (.if_icmp .ge 50, 3) := by decide +kernel
theorem zd_W_lacksProvider_26 : decode zb_W_lacksProvider 26 = .ok (.aload_n 0, 1) := by decide +kernel
theorem zd_W_lacksProvider_27 : decode zb_W_lacksProvider 27 = .ok (.getfield 19, 3) := by decide +kernel
theorem zd_W_lacksProvider_30 : decode zb_W_lacksProvider 30 = .ok (.iload_n 2, 1) := by decide +kernel
theorem zd_W_lacksProvider_31 : decode zb_W_lacksProvider 31 = .ok (.iload 5, 2) := by decide +kernel
theorem zd_W_lacksProvider_33 : decode zb_W_lacksProvider 33 = .ok (.invokevirtual 152, 3) := by decide +kernel
theorem zd_W_lacksProvider_36 : decode zb_W_lacksProvider 36 = .ok (.istore 6, 2) := by decide +kernel
theorem zd_W_lacksProvider_38 : decode zb_W_lacksProvider 38 = .ok (.aload_n 0, 1) := by decide +kernel
theorem zd_W_lacksProvider_39 : decode zb_W_lacksProvider 39 = .ok (.getfield 26, 3) := by decide +kernel
theorem zd_W_lacksProvider_42 : decode zb_W_lacksProvider 42 = .ok (.iload_n 1, 1) := by decide +kernel
theorem zd_W_lacksProvider_43 : decode zb_W_lacksProvider 43 = .ok (.iload 6, 2) := by decide +kernel
theorem zd_W_lacksProvider_45 : decode zb_W_lacksProvider 45 = .ok (.iload_n 3, 1) := by decide +kernel
theorem zd_W_lacksProvider_46 : decode zb_W_lacksProvider 46 = .ok (.invokevirtual 98, 3) := by decide +kernel
theorem zd_W_lacksProvider_49 : decode zb_W_lacksProvider 49 = .ok (.iconst 1, 1) := by decide +kernel
theorem zd_W_lacksProvider_50 : decode zb_W_lacksProvider 50 = .ok (.if_icmp .ne 17, 3) := by decide +kernel
theorem zd_W_lacksProvider_53 : decode zb_W_lacksProvider 53 = .ok (.iload 4, 2) := by decide +kernel
theorem zd_W_lacksProvider_55 : decode zb_W_lacksProvider 55 = .ok (.aload_n 0, 1) := by decide +kernel
theorem zd_W_lacksProvider_56 : decode zb_W_lacksProvider 56 = .ok (.getfield 19, 3) := by decide +kernel
theorem zd_W_lacksProvider_59 : decode zb_W_lacksProvider 59 = .ok (.iload 6, 2) := by decide +kernel
theorem zd_W_lacksProvider_61 : decode zb_W_lacksProvider 61 = .ok (.invokevirtual 170, 3) := by decide +kernel
theorem zd_W_lacksProvider_64 : decode zb_W_lacksProvider 64 = .ok (.ior, 1) := by decide +kernel
theorem zd_W_lacksProvider_65 : decode zb_W_lacksProvider 65 = .ok (.istore 4, 2) := by decide +kernel
theorem zd_W_lacksProvider_67 : decode zb_W_lacksProvider 67 = .ok (.iinc 5 1, 3) := by decide +kernel
theorem zd_W_lacksProvider_70 : decode zb_W_lacksProvider 70 = .ok (.goto (-57), 3) := by decide +kernel
theorem zd_W_lacksProvider_73 : decode zb_W_lacksProvider 73 = .ok (.aload_n 0, 1) := by decide +kernel
theorem zd_W_lacksProvider_74 : decode zb_W_lacksProvider 74 = .ok (.getfield 19, 3) := by decide +kernel
theorem zd_W_lacksProvider_77 : decode zb_W_lacksProvider 77 = .ok (.iload_n 2, 1) := by decide +kernel
theorem zd_W_lacksProvider_78 : decode zb_W_lacksProvider 78 = .ok (.invokevirtual 173, 3) := by decide +kernel
theorem zd_W_lacksProvider_81 : decode zb_W_lacksProvider 81 = .ok (.iload 4, 2) := by decide +kernel
theorem zd_W_lacksProvider_83 : decode zb_W_lacksProvider 83 = .ok (.iconst (-1), 1) := by decide +kernel
theorem zd_W_lacksProvider_84 : decode zb_W_lacksProvider 84 = .ok (.ixor, 1) := by decide +kernel
theorem zd_W_lacksProvider_85 : decode zb_W_lacksProvider 85 = .ok (.iand, 1) := by decide +kernel
theorem zd_W_lacksProvider_86 : decode zb_W_lacksProvider 86 = .ok (.ifCond .eq 7, 3) := by decide +kernel
theorem zd_W_lacksProvider_89 : decode zb_W_lacksProvider 89 = .ok (.iconst 1, 1) := by decide +kernel
theorem zd_W_lacksProvider_90 : decode zb_W_lacksProvider 90 = .ok (.goto 4, 3) := by decide +kernel
theorem zd_W_lacksProvider_93 : decode zb_W_lacksProvider 93 = .ok (.iconst 0, 1) := by decide +kernel
theorem zd_W_lacksProvider_94 : decode zb_W_lacksProvider 94 = .ok (.ireturn, 1) := by decide +kernel
theorem zd_T_providersOf_0 : decode zb_T_providersOf 0 = .ok (.aload_n 0, 1) := by decide +kernel
theorem zd_T_providersOf_1 : decode zb_T_providersOf 1 = .ok (.getfield 15, 3) := by decide +kernel
theorem zd_T_providersOf_4 : decode zb_T_providersOf 4 = .ok (.iload_n 1, 1) := by decide +kernel
theorem zd_T_providersOf_5 : decode zb_T_providersOf 5 = .ok (.iaload, 1) := by decide +kernel
theorem zd_T_providersOf_6 : decode zb_T_providersOf 6 = .ok (.ireturn, 1) := by decide +kernel
theorem zd_A_givesOf_0 : decode zb_A_givesOf 0 = .ok (.aload_n 0, 1) := by decide +kernel
theorem zd_A_givesOf_1 : decode zb_A_givesOf 1 = .ok (.getfield 21, 3) := by decide +kernel
theorem zd_A_givesOf_4 : decode zb_A_givesOf 4 = .ok (.iload_n 1, 1) := by decide +kernel
theorem zd_A_givesOf_5 : decode zb_A_givesOf 5 = .ok (.iaload, 1) := by decide +kernel
theorem zd_A_givesOf_6 : decode zb_A_givesOf 6 = .ok (.ireturn, 1) := by decide +kernel
theorem zd_A_wantsOf_0 : decode zb_A_wantsOf 0 = .ok (.aload_n 0, 1) := by decide +kernel
theorem zd_A_wantsOf_1 : decode zb_A_wantsOf 1 = .ok (.getfield 18, 3) := by decide +kernel
theorem zd_A_wantsOf_4 : decode zb_A_wantsOf 4 = .ok (.iload_n 1, 1) := by decide +kernel
theorem zd_A_wantsOf_5 : decode zb_A_wantsOf 5 = .ok (.iaload, 1) := by decide +kernel
theorem zd_A_wantsOf_6 : decode zb_A_wantsOf 6 = .ok (.ireturn, 1) := by decide +kernel
theorem zd_M_keepPassed_0 : decode zb_M_keepPassed 0 = .ok (.aload_n 0, 1) := by decide +kernel
theorem zd_M_keepPassed_1 : decode zb_M_keepPassed 1 = .ok (.getfield 15, 3) := by decide +kernel
theorem zd_M_keepPassed_4 : decode zb_M_keepPassed 4 = .ok (.iload_n 1, 1) := by decide +kernel
theorem zd_M_keepPassed_5 : decode zb_M_keepPassed 5 = .ok (.iload_n 2, 1) := by decide +kernel
theorem zd_M_keepPassed_6 : decode zb_M_keepPassed 6 = .ok (.invokestatic 37, 3) := by decide +kernel
theorem zd_M_keepPassed_9 : decode zb_M_keepPassed 9 = .ok (.dup2, 1) := by decide +kernel
theorem zd_M_keepPassed_10 : decode zb_M_keepPassed 10 = .ok (.iaload, 1) := by decide +kernel
theorem zd_M_keepPassed_11 : decode zb_M_keepPassed 11 = .ok (.iconst 1, 1) := by decide +kernel
theorem zd_M_keepPassed_12 : decode zb_M_keepPassed 12 = .ok (.iload_n 3, 1) := by decide +kernel
theorem zd_M_keepPassed_13 : decode zb_M_keepPassed 13 = .ok (.ishl, 1) := by decide +kernel
theorem zd_M_keepPassed_14 : decode zb_M_keepPassed 14 = .ok (.ior, 1) := by decide +kernel
theorem zd_M_keepPassed_15 : decode zb_M_keepPassed 15 = .ok (.iastore, 1) := by decide +kernel
theorem zd_M_keepPassed_16 : decode zb_M_keepPassed 16 = .ok (.return_, 1) := by decide +kernel
theorem zd_W_doBelow_0 : decode zb_W_doBelow 0 = .ok (.iconst 0, 1) := by decide +kernel
theorem zd_W_doBelow_1 : decode zb_W_doBelow 1 = .ok (.istore 5, 2) := by decide +kernel
theorem zd_W_doBelow_3 : decode zb_W_doBelow 3 = .ok (.iload 5, 2) := by decide +kernel
theorem zd_W_doBelow_5 : decode zb_W_doBelow 5 = .ok (.iconst 3, 1) := by decide +kernel
theorem zd_W_doBelow_6 : decode zb_W_doBelow 6 = .ok (.if_icmp .ge 67, 3) := by decide +kernel
theorem zd_W_doBelow_9 : decode zb_W_doBelow 9 = .ok (.aload_n 0, 1) := by decide +kernel
theorem zd_W_doBelow_10 : decode zb_W_doBelow 10 = .ok (.iload_n 1, 1) := by decide +kernel
theorem zd_W_doBelow_11 : decode zb_W_doBelow 11 = .ok (.iload_n 2, 1) := by decide +kernel
theorem zd_W_doBelow_12 : decode zb_W_doBelow 12 = .ok (.iload 5, 2) := by decide +kernel
theorem zd_W_doBelow_14 : decode zb_W_doBelow 14 = .ok (.invokevirtual 155, 3) := by decide +kernel
theorem zd_W_doBelow_17 : decode zb_W_doBelow 17 = .ok (.istore 6, 2) := by decide +kernel
theorem zd_W_doBelow_19 : decode zb_W_doBelow 19 = .ok (.iconst 0, 1) := by decide +kernel
theorem zd_W_doBelow_20 : decode zb_W_doBelow 20 = .ok (.istore 7, 2) := by decide +kernel
theorem zd_W_doBelow_22 : decode zb_W_doBelow 22 = .ok (.iload 7, 2) := by decide +kernel
theorem zd_W_doBelow_24 : decode zb_W_doBelow 24 = .ok (.iload 6, 2) := by decide +kernel
theorem zd_W_doBelow_26 : decode zb_W_doBelow 26 = .ok (.if_icmp .ge 41, 3) := by decide +kernel
theorem zd_W_doBelow_29 : decode zb_W_doBelow 29 = .ok (.aload_n 0, 1) := by decide +kernel
theorem zd_W_doBelow_30 : decode zb_W_doBelow 30 = .ok (.aload_n 0, 1) := by decide +kernel
theorem zd_W_doBelow_31 : decode zb_W_doBelow 31 = .ok (.getfield 12, 3) := by decide +kernel
theorem zd_W_doBelow_34 : decode zb_W_doBelow 34 = .ok (.iload_n 1, 1) := by decide +kernel
theorem zd_W_doBelow_35 : decode zb_W_doBelow 35 = .ok (.iload 5, 2) := by decide +kernel
theorem zd_W_doBelow_37 : decode zb_W_doBelow 37 = .ok (.iload 7, 2) := by decide +kernel
theorem zd_W_doBelow_39 : decode zb_W_doBelow 39 = .ok (.invokevirtual 158, 3) := by decide +kernel
theorem zd_W_doBelow_42 : decode zb_W_doBelow 42 = .ok (.iload_n 2, 1) := by decide +kernel
theorem zd_W_doBelow_43 : decode zb_W_doBelow 43 = .ok (.iload_n 3, 1) := by decide +kernel
theorem zd_W_doBelow_44 : decode zb_W_doBelow 44 = .ok (.iload 4, 2) := by decide +kernel
theorem zd_W_doBelow_46 : decode zb_W_doBelow 46 = .ok (.iconst 1, 1) := by decide +kernel
theorem zd_W_doBelow_47 : decode zb_W_doBelow 47 = .ok (.iadd, 1) := by decide +kernel
theorem zd_W_doBelow_48 : decode zb_W_doBelow 48 = .ok (.invokevirtual 94, 3) := by decide +kernel
theorem zd_W_doBelow_51 : decode zb_W_doBelow 51 = .ok (.istore 8, 2) := by decide +kernel
theorem zd_W_doBelow_53 : decode zb_W_doBelow 53 = .ok (.iload 8, 2) := by decide +kernel
theorem zd_W_doBelow_55 : decode zb_W_doBelow 55 = .ok (.ifCond .ge 6, 3) := by decide +kernel
theorem zd_W_doBelow_58 : decode zb_W_doBelow 58 = .ok (.iload 8, 2) := by decide +kernel
theorem zd_W_doBelow_60 : decode zb_W_doBelow 60 = .ok (.ireturn, 1) := by decide +kernel
theorem zd_W_doBelow_61 : decode zb_W_doBelow 61 = .ok (.iinc 7 1, 3) := by decide +kernel
theorem zd_W_doBelow_64 : decode zb_W_doBelow 64 = .ok (.goto (-42), 3) := by decide +kernel
theorem zd_W_doBelow_67 : decode zb_W_doBelow 67 = .ok (.iinc 5 1, 3) := by decide +kernel
theorem zd_W_doBelow_70 : decode zb_W_doBelow 70 = .ok (.goto (-67), 3) := by decide +kernel
theorem zd_W_doBelow_73 : decode zb_W_doBelow 73 = .ok (.iconst 1, 1) := by decide +kernel
theorem zd_W_doBelow_74 : decode zb_W_doBelow 74 = .ok (.ireturn, 1) := by decide +kernel
theorem zd_W_lengthAlong_0 : decode zb_W_lengthAlong 0 = .ok (.aload_n 0, 1) := by decide +kernel
theorem zd_W_lengthAlong_1 : decode zb_W_lengthAlong 1 = .ok (.getfield 19, 3) := by decide +kernel
theorem zd_W_lengthAlong_4 : decode zb_W_lengthAlong 4 = .ok (.iload_n 2, 1) := by decide +kernel
theorem zd_W_lengthAlong_5 : decode zb_W_lengthAlong 5 = .ok (.iload_n 3, 1) := by decide +kernel
theorem zd_W_lengthAlong_6 : decode zb_W_lengthAlong 6 = .ok (.invokevirtual 161, 3) := by decide +kernel
theorem zd_W_lengthAlong_9 : decode zb_W_lengthAlong 9 = .ok (.ifCond .eq 15, 3) := by decide +kernel
theorem zd_W_lengthAlong_12 : decode zb_W_lengthAlong 12 = .ok (.aload_n 0, 1) := by decide +kernel
theorem zd_W_lengthAlong_13 : decode zb_W_lengthAlong 13 = .ok (.getfield 12, 3) := by decide +kernel
theorem zd_W_lengthAlong_16 : decode zb_W_lengthAlong 16 = .ok (.iload_n 1, 1) := by decide +kernel
theorem zd_W_lengthAlong_17 : decode zb_W_lengthAlong 17 = .ok (.iload_n 3, 1) := by decide +kernel
theorem zd_W_lengthAlong_18 : decode zb_W_lengthAlong 18 = .ok (.invokevirtual 164, 3) := by decide +kernel
theorem zd_W_lengthAlong_21 : decode zb_W_lengthAlong 21 = .ok (.goto 4, 3) := by decide +kernel
theorem zd_W_lengthAlong_24 : decode zb_W_lengthAlong 24 = .ok (.iconst 0, 1) := by decide +kernel
theorem zd_W_lengthAlong_25 : decode zb_W_lengthAlong 25 = .ok (.ireturn, 1) := by decide +kernel
theorem zd_A_goesAlong_0 : decode zb_A_goesAlong 0 = .ok (.aload_n 0, 1) := by decide +kernel
theorem zd_A_goesAlong_1 : decode zb_A_goesAlong 1 = .ok (.getfield 15, 3) := by decide +kernel
theorem zd_A_goesAlong_4 : decode zb_A_goesAlong 4 = .ok (.iload_n 1, 1) := by decide +kernel
theorem zd_A_goesAlong_5 : decode zb_A_goesAlong 5 = .ok (.iaload, 1) := by decide +kernel
theorem zd_A_goesAlong_6 : decode zb_A_goesAlong 6 = .ok (.iload_n 2, 1) := by decide +kernel
theorem zd_A_goesAlong_7 : decode zb_A_goesAlong 7 = .ok (.ishr, 1) := by decide +kernel
theorem zd_A_goesAlong_8 : decode zb_A_goesAlong 8 = .ok (.iconst 1, 1) := by decide +kernel
theorem zd_A_goesAlong_9 : decode zb_A_goesAlong 9 = .ok (.iand, 1) := by decide +kernel
theorem zd_A_goesAlong_10 : decode zb_A_goesAlong 10 = .ok (.ifCond .eq 7, 3) := by decide +kernel
theorem zd_A_goesAlong_13 : decode zb_A_goesAlong 13 = .ok (.iconst 1, 1) := by decide +kernel
theorem zd_A_goesAlong_14 : decode zb_A_goesAlong 14 = .ok (.goto 4, 3) := by decide +kernel
theorem zd_A_goesAlong_17 : decode zb_A_goesAlong 17 = .ok (.iconst 0, 1) := by decide +kernel
theorem zd_A_goesAlong_18 : decode zb_A_goesAlong 18 = .ok (.ireturn, 1) := by decide +kernel
theorem zd_T_rowLength_0 : decode zb_T_rowLength 0 = .ok (.aload_n 0, 1) := by decide +kernel
theorem zd_T_rowLength_1 : decode zb_T_rowLength 1 = .ok (.getfield 25, 3) := by decide +kernel
theorem zd_T_rowLength_4 : decode zb_T_rowLength 4 = .ok (.iload_n 1, 1) := by decide +kernel
theorem zd_T_rowLength_5 : decode zb_T_rowLength 5 = .ok (.iconst 3, 1) := by decide +kernel
theorem zd_T_rowLength_6 : decode zb_T_rowLength 6 = .ok (.imul, 1) := by decide +kernel
theorem zd_T_rowLength_7 : decode zb_T_rowLength 7 = .ok (.iload_n 2, 1) := by decide +kernel
theorem zd_T_rowLength_8 : decode zb_T_rowLength 8 = .ok (.iadd, 1) := by decide +kernel
theorem zd_T_rowLength_9 : decode zb_T_rowLength 9 = .ok (.iaload, 1) := by decide +kernel
theorem zd_T_rowLength_10 : decode zb_T_rowLength 10 = .ok (.ireturn, 1) := by decide +kernel
theorem zd_T_rowAt_0 : decode zb_T_rowAt 0 = .ok (.aload_n 0, 1) := by decide +kernel
theorem zd_T_rowAt_1 : decode zb_T_rowAt 1 = .ok (.getfield 22, 3) := by decide +kernel
theorem zd_T_rowAt_4 : decode zb_T_rowAt 4 = .ok (.iload_n 1, 1) := by decide +kernel
theorem zd_T_rowAt_5 : decode zb_T_rowAt 5 = .ok (.iconst 3, 1) := by decide +kernel
theorem zd_T_rowAt_6 : decode zb_T_rowAt 6 = .ok (.imul, 1) := by decide +kernel
theorem zd_T_rowAt_7 : decode zb_T_rowAt 7 = .ok (.iload_n 2, 1) := by decide +kernel
theorem zd_T_rowAt_8 : decode zb_T_rowAt 8 = .ok (.iadd, 1) := by decide +kernel
theorem zd_T_rowAt_9 : decode zb_T_rowAt 9 = .ok (.iconst 4, 1) := by decide +kernel
theorem zd_T_rowAt_10 : decode zb_T_rowAt 10 = .ok (.imul, 1) := by decide +kernel
theorem zd_T_rowAt_11 : decode zb_T_rowAt 11 = .ok (.iload_n 3, 1) := by decide +kernel
theorem zd_T_rowAt_12 : decode zb_T_rowAt 12 = .ok (.iadd, 1) := by decide +kernel
theorem zd_T_rowAt_13 : decode zb_T_rowAt 13 = .ok (.iaload, 1) := by decide +kernel
theorem zd_T_rowAt_14 : decode zb_T_rowAt 14 = .ok (.ireturn, 1) := by decide +kernel
theorem zd_W_makeOutput_0 : decode zb_W_makeOutput 0 = .ok (.aload_n 0, 1) := by decide +kernel
theorem zd_W_makeOutput_1 : decode zb_W_makeOutput 1 = .ok (.getfield 19, 3) := by decide +kernel
theorem zd_W_makeOutput_4 : decode zb_W_makeOutput 4 = .ok (.iload_n 2, 1) := by decide +kernel
theorem zd_W_makeOutput_5 : decode zb_W_makeOutput 5 = .ok (.invokevirtual 176, 3) := by decide +kernel
theorem zd_W_makeOutput_8 : decode zb_W_makeOutput 8 = .ok (.istore 4, 2) := by decide +kernel
theorem zd_W_makeOutput_10 : decode zb_W_makeOutput 10 = .ok (.iload 4, 2) := by decide +kernel
theorem zd_W_makeOutput_12 : decode zb_W_makeOutput 12 = .ok (.iconst (-1), 1) := by decide +kernel
theorem zd_W_makeOutput_13 : decode zb_W_makeOutput 13 = .ok (.if_icmp .ne 5, 3) := by decide +kernel
theorem zd_W_makeOutput_16 : decode zb_W_makeOutput 16 = .ok (.iconst 1, 1) := by decide +kernel
theorem zd_W_makeOutput_17 : decode zb_W_makeOutput 17 = .ok (.ireturn, 1) := by decide +kernel
theorem zd_W_makeOutput_18 : decode zb_W_makeOutput 18 = .ok (.aload_n 0, 1) := by decide +kernel
theorem zd_W_makeOutput_19 : decode zb_W_makeOutput 19 = .ok (.getfield 26, 3) := by decide +kernel
theorem zd_W_makeOutput_22 : decode zb_W_makeOutput 22 = .ok (.iload_n 1, 1) := by decide +kernel
theorem zd_W_makeOutput_23 : decode zb_W_makeOutput 23 = .ok (.iload 4, 2) := by decide +kernel
theorem zd_W_makeOutput_25 : decode zb_W_makeOutput 25 = .ok (.invokevirtual 126, 3) := by decide +kernel
theorem zd_W_makeOutput_28 : decode zb_W_makeOutput 28 = .ok (.istore 5, 2) := by decide +kernel
theorem zd_W_makeOutput_30 : decode zb_W_makeOutput 30 = .ok (.iload 5, 2) := by decide +kernel
theorem zd_W_makeOutput_32 : decode zb_W_makeOutput 32 = .ok (.iconst (-1), 1) := by decide +kernel
theorem zd_W_makeOutput_33 : decode zb_W_makeOutput 33 = .ok (.if_icmp .ne 17, 3) := by decide +kernel
theorem zd_W_makeOutput_36 : decode zb_W_makeOutput 36 = .ok (.aload_n 0, 1) := by decide +kernel
theorem zd_W_makeOutput_37 : decode zb_W_makeOutput 37 = .ok (.getfield 26, 3) := by decide +kernel
theorem zd_W_makeOutput_40 : decode zb_W_makeOutput 40 = .ok (.iload_n 1, 1) := by decide +kernel
theorem zd_W_makeOutput_41 : decode zb_W_makeOutput 41 = .ok (.iload 4, 2) := by decide +kernel
theorem zd_W_makeOutput_43 : decode zb_W_makeOutput 43 = .ok (.iload_n 2, 1) := by decide +kernel
theorem zd_W_makeOutput_44 : decode zb_W_makeOutput 44 = .ok (.iload_n 3, 1) := by decide +kernel
theorem zd_W_makeOutput_45 : decode zb_W_makeOutput 45 = .ok (.invokevirtual 179, 3) := by decide +kernel
theorem zd_W_makeOutput_48 : decode zb_W_makeOutput 48 = .ok (.iconst 1, 1) := by decide +kernel
theorem zd_W_makeOutput_49 : decode zb_W_makeOutput 49 = .ok (.ireturn, 1) := by decide +kernel
theorem zd_W_makeOutput_50 : decode zb_W_makeOutput 50 = .ok (.aload_n 0, 1) := by decide +kernel
theorem zd_W_makeOutput_51 : decode zb_W_makeOutput 51 = .ok (.getfield 30, 3) := by decide +kernel
theorem zd_W_makeOutput_54 : decode zb_W_makeOutput 54 = .ok (.iconst 0, 1) := by decide +kernel
theorem zd_W_makeOutput_55 : decode zb_W_makeOutput 55 = .ok (.iload_n 1, 1) := by decide +kernel
theorem zd_W_makeOutput_56 : decode zb_W_makeOutput 56 = .ok (.iastore, 1) := by decide +kernel
theorem zd_W_makeOutput_57 : decode zb_W_makeOutput 57 = .ok (.aload_n 0, 1) := by decide +kernel
theorem zd_W_makeOutput_58 : decode zb_W_makeOutput 58 = .ok (.getfield 30, 3) := by decide +kernel
theorem zd_W_makeOutput_61 : decode zb_W_makeOutput 61 = .ok (.iconst 1, 1) := by decide +kernel
theorem zd_W_makeOutput_62 : decode zb_W_makeOutput 62 = .ok (.iload_n 2, 1) := by decide +kernel
theorem zd_W_makeOutput_63 : decode zb_W_makeOutput 63 = .ok (.iastore, 1) := by decide +kernel
theorem zd_W_makeOutput_64 : decode zb_W_makeOutput 64 = .ok (.aload_n 0, 1) := by decide +kernel
end
section
theorem zd_W_makeOutput_65 : decode zb_W_makeOutput 65 = .ok (.getfield 30, 3) := by decide +kernel
theorem zd_W_makeOutput_68 : decode zb_W_makeOutput 68 = .ok (.iconst 2, 1) := by decide +kernel
theorem zd_W_makeOutput_69 : decode zb_W_makeOutput 69 = .ok (.iload_n 3, 1) := by decide +kernel
theorem zd_W_makeOutput_70 : decode zb_W_makeOutput 70 = .ok (.iastore, 1) := by decide +kernel
theorem zd_W_makeOutput_71 : decode zb_W_makeOutput 71 = .ok (.aload_n 0, 1) := by decide +kernel
theorem zd_W_makeOutput_72 : decode zb_W_makeOutput 72 = .ok (.getfield 30, 3) := by decide +kernel
theorem zd_W_makeOutput_75 : decode zb_W_makeOutput 75 = .ok (.iconst 3, 1) := by decide +kernel
theorem zd_W_makeOutput_76 : decode zb_W_makeOutput 76 = .ok (.iload 5, 2) := by decide +kernel
theorem zd_W_makeOutput_78 : decode zb_W_makeOutput 78 = .ok (.iastore, 1) := by decide +kernel
theorem zd_W_makeOutput_79 : decode zb_W_makeOutput 79 = .ok (.aload_n 0, 1) := by decide +kernel
theorem zd_W_makeOutput_80 : decode zb_W_makeOutput 80 = .ok (.getfield 30, 3) := by decide +kernel
theorem zd_W_makeOutput_83 : decode zb_W_makeOutput 83 = .ok (.iconst 4, 1) := by decide +kernel
theorem zd_W_makeOutput_84 : decode zb_W_makeOutput 84 = .ok (.aload_n 0, 1) := by decide +kernel
theorem zd_W_makeOutput_85 : decode zb_W_makeOutput 85 = .ok (.getfield 26, 3) := by decide +kernel
theorem zd_W_makeOutput_88 : decode zb_W_makeOutput 88 = .ok (.iload_n 1, 1) := by decide +kernel
theorem zd_W_makeOutput_89 : decode zb_W_makeOutput 89 = .ok (.iload 4, 2) := by decide +kernel
theorem zd_W_makeOutput_91 : decode zb_W_makeOutput 91 = .ok (.invokevirtual 183, 3) := by decide +kernel
theorem zd_W_makeOutput_94 : decode zb_W_makeOutput 94 = .ok (.iastore, 1) := by decide +kernel
theorem zd_W_makeOutput_95 : decode zb_W_makeOutput 95 = .ok (.iconst 0, 1) := by decide +kernel
theorem zd_W_makeOutput_96 : decode zb_W_makeOutput 96 = .ok (.ireturn, 1) := by decide +kernel
theorem zd_M_keepMaker_0 : decode zb_M_keepMaker 0 = .ok (.aload_n 0, 1) := by decide +kernel
theorem zd_M_keepMaker_1 : decode zb_M_keepMaker 1 = .ok (.getfield 25, 3) := by decide +kernel
theorem zd_M_keepMaker_4 : decode zb_M_keepMaker 4 = .ok (.iload_n 1, 1) := by decide +kernel
theorem zd_M_keepMaker_5 : decode zb_M_keepMaker 5 = .ok (.bipush 10, 2) := by decide +kernel
theorem zd_M_keepMaker_7 : decode zb_M_keepMaker 7 = .ok (.imul, 1) := by decide +kernel
theorem zd_M_keepMaker_8 : decode zb_M_keepMaker 8 = .ok (.iload_n 2, 1) := by decide +kernel
theorem zd_M_keepMaker_9 : decode zb_M_keepMaker 9 = .ok (.iadd, 1) := by decide +kernel
theorem zd_M_keepMaker_10 : decode zb_M_keepMaker 10 = .ok (.iload_n 3, 1) := by decide +kernel
theorem zd_M_keepMaker_11 : decode zb_M_keepMaker 11 = .ok (.iastore, 1) := by decide +kernel
theorem zd_M_keepMaker_12 : decode zb_M_keepMaker 12 = .ok (.aload_n 0, 1) := by decide +kernel
theorem zd_M_keepMaker_13 : decode zb_M_keepMaker 13 = .ok (.getfield 28, 3) := by decide +kernel
theorem zd_M_keepMaker_16 : decode zb_M_keepMaker 16 = .ok (.iload_n 1, 1) := by decide +kernel
theorem zd_M_keepMaker_17 : decode zb_M_keepMaker 17 = .ok (.bipush 10, 2) := by decide +kernel
theorem zd_M_keepMaker_19 : decode zb_M_keepMaker 19 = .ok (.imul, 1) := by decide +kernel
theorem zd_M_keepMaker_20 : decode zb_M_keepMaker 20 = .ok (.iload_n 2, 1) := by decide +kernel
theorem zd_M_keepMaker_21 : decode zb_M_keepMaker 21 = .ok (.iadd, 1) := by decide +kernel
theorem zd_M_keepMaker_22 : decode zb_M_keepMaker 22 = .ok (.iload 4, 2) := by decide +kernel
theorem zd_M_keepMaker_24 : decode zb_M_keepMaker 24 = .ok (.iastore, 1) := by decide +kernel
theorem zd_M_keepMaker_25 : decode zb_M_keepMaker 25 = .ok (.return_, 1) := by decide +kernel
theorem zd_M_makerSettingOf_0 : decode zb_M_makerSettingOf 0 = .ok (.aload_n 0, 1) := by decide +kernel
theorem zd_M_makerSettingOf_1 : decode zb_M_makerSettingOf 1 = .ok (.getfield 28, 3) := by decide +kernel
theorem zd_M_makerSettingOf_4 : decode zb_M_makerSettingOf 4 = .ok (.iload_n 1, 1) := by decide +kernel
theorem zd_M_makerSettingOf_5 : decode zb_M_makerSettingOf 5 = .ok (.bipush 10, 2) := by decide +kernel
theorem zd_M_makerSettingOf_7 : decode zb_M_makerSettingOf 7 = .ok (.imul, 1) := by decide +kernel
theorem zd_M_makerSettingOf_8 : decode zb_M_makerSettingOf 8 = .ok (.iload_n 2, 1) := by decide +kernel
theorem zd_M_makerSettingOf_9 : decode zb_M_makerSettingOf 9 = .ok (.iadd, 1) := by decide +kernel
theorem zd_M_makerSettingOf_10 : decode zb_M_makerSettingOf 10 = .ok (.iaload, 1) := by decide +kernel
theorem zd_M_makerSettingOf_11 : decode zb_M_makerSettingOf 11 = .ok (.ireturn, 1) := by decide +kernel
theorem zd_W_joined_0 : decode zb_W_joined 0 = .ok (.aload_n 0, 1) := by decide +kernel
theorem zd_W_joined_1 : decode zb_W_joined 1 = .ok (.getfield 19, 3) := by decide +kernel
theorem zd_W_joined_4 : decode zb_W_joined 4 = .ok (.iload_n 2, 1) := by decide +kernel
theorem zd_W_joined_5 : decode zb_W_joined 5 = .ok (.invokevirtual 186, 3) := by decide +kernel
theorem zd_W_joined_8 : decode zb_W_joined 8 = .ok (.istore 4, 2) := by decide +kernel
theorem zd_W_joined_10 : decode zb_W_joined 10 = .ok (.iload 4, 2) := by decide +kernel
theorem zd_W_joined_12 : decode zb_W_joined 12 = .ok (.iconst 3, 1) := by decide +kernel
theorem zd_W_joined_13 : decode zb_W_joined 13 = .ok (.if_icmp .ne 7, 3) := by decide +kernel
theorem zd_W_joined_16 : decode zb_W_joined 16 = .ok (.lconst 1, 1) := by decide +kernel
theorem zd_W_joined_17 : decode zb_W_joined 17 = .ok (.goto 14, 3) := by decide +kernel
theorem zd_W_joined_20 : decode zb_W_joined 20 = .ok (.aload_n 0, 1) := by decide +kernel
theorem zd_W_joined_21 : decode zb_W_joined 21 = .ok (.getfield 12, 3) := by decide +kernel
theorem zd_W_joined_24 : decode zb_W_joined 24 = .ok (.iload_n 1, 1) := by decide +kernel
theorem zd_W_joined_25 : decode zb_W_joined 25 = .ok (.invokevirtual 189, 3) := by decide +kernel
theorem zd_W_joined_28 : decode zb_W_joined 28 = .ok (.iload_n 3, 1) := by decide +kernel
theorem zd_W_joined_29 : decode zb_W_joined 29 = .ok (.i2l, 1) := by decide +kernel
theorem zd_W_joined_30 : decode zb_W_joined 30 = .ok (.ladd, 1) := by decide +kernel
theorem zd_W_joined_31 : decode zb_W_joined 31 = .ok (.lstore 5, 2) := by decide +kernel
theorem zd_W_joined_33 : decode zb_W_joined 33 = .ok (.aload_n 0, 1) := by decide +kernel
theorem zd_W_joined_34 : decode zb_W_joined 34 = .ok (.lload 5, 2) := by decide +kernel
theorem zd_W_joined_36 : decode zb_W_joined 36 = .ok (.iload_n 1, 1) := by decide +kernel
theorem zd_W_joined_37 : decode zb_W_joined 37 = .ok (.iload_n 2, 1) := by decide +kernel
theorem zd_W_joined_38 : decode zb_W_joined 38 = .ok (.iload_n 3, 1) := by decide +kernel
theorem zd_W_joined_39 : decode zb_W_joined 39 = .ok (.invokevirtual 193, 3) := by decide +kernel
theorem zd_W_joined_42 : decode zb_W_joined 42 = .ok (.lstore 7, 2) := by decide +kernel
theorem zd_W_joined_44 : decode zb_W_joined 44 = .ok (.iload 4, 2) := by decide +kernel
theorem zd_W_joined_46 : decode zb_W_joined 46 = .ok (.iconst 3, 1) := by decide +kernel
theorem zd_W_joined_47 : decode zb_W_joined 47 = .ok (.if_icmp .ne 8, 3) := by decide +kernel
theorem zd_W_joined_50 : decode zb_W_joined 50 = .ok (.lload 7, 2) := by decide +kernel
theorem zd_W_joined_52 : decode zb_W_joined 52 = .ok (.goto 12, 3) := by decide +kernel
theorem zd_W_joined_55 : decode zb_W_joined 55 = .ok (.aload_n 0, 1) := by decide +kernel
theorem zd_W_joined_56 : decode zb_W_joined 56 = .ok (.lload 7, 2) := by decide +kernel
theorem zd_W_joined_58 : decode zb_W_joined 58 = .ok (.iload_n 1, 1) := by decide +kernel
theorem zd_W_joined_59 : decode zb_W_joined 59 = .ok (.iload_n 2, 1) := by decide +kernel
theorem zd_W_joined_60 : decode zb_W_joined 60 = .ok (.iload_n 3, 1) := by decide +kernel
theorem zd_W_joined_61 : decode zb_W_joined 61 = .ok (.invokevirtual 197, 3) := by decide +kernel
theorem zd_W_joined_64 : decode zb_W_joined 64 = .ok (.lreturn, 1) := by decide +kernel
theorem zd_A_kindOf_0 : decode zb_A_kindOf 0 = .ok (.aload_n 0, 1) := by decide +kernel
theorem zd_A_kindOf_1 : decode zb_A_kindOf 1 = .ok (.getfield 9, 3) := by decide +kernel
theorem zd_A_kindOf_4 : decode zb_A_kindOf 4 = .ok (.iload_n 1, 1) := by decide +kernel
theorem zd_A_kindOf_5 : decode zb_A_kindOf 5 = .ok (.iaload, 1) := by decide +kernel
theorem zd_A_kindOf_6 : decode zb_A_kindOf 6 = .ok (.ireturn, 1) := by decide +kernel
theorem zd_T_valueOf_0 : decode zb_T_valueOf 0 = .ok (.aload_n 0, 1) := by decide +kernel
theorem zd_T_valueOf_1 : decode zb_T_valueOf 1 = .ok (.getfield 9, 3) := by decide +kernel
theorem zd_T_valueOf_4 : decode zb_T_valueOf 4 = .ok (.iload_n 1, 1) := by decide +kernel
theorem zd_T_valueOf_5 : decode zb_T_valueOf 5 = .ok (.laload, 1) := by decide +kernel
theorem zd_T_valueOf_6 : decode zb_T_valueOf 6 = .ok (.lreturn, 1) := by decide +kernel
theorem zd_W_joinBelow_0 : decode zb_W_joinBelow 0 = .ok (.aload_n 0, 1) := by decide +kernel
theorem zd_W_joinBelow_1 : decode zb_W_joinBelow 1 = .ok (.getfield 19, 3) := by decide +kernel
theorem zd_W_joinBelow_4 : decode zb_W_joinBelow 4 = .ok (.iload 4, 2) := by decide +kernel
theorem zd_W_joinBelow_6 : decode zb_W_joinBelow 6 = .ok (.invokevirtual 186, 3) := by decide +kernel
theorem zd_W_joinBelow_9 : decode zb_W_joinBelow 9 = .ok (.istore 6, 2) := by decide +kernel
theorem zd_W_joinBelow_11 : decode zb_W_joinBelow 11 = .ok (.lload_n 1, 1) := by decide +kernel
theorem zd_W_joinBelow_12 : decode zb_W_joinBelow 12 = .ok (.lstore 7, 2) := by decide +kernel
theorem zd_W_joinBelow_14 : decode zb_W_joinBelow 14 = .ok (.iconst 0, 1) := by decide +kernel
theorem zd_W_joinBelow_15 : decode zb_W_joinBelow 15 = .ok (.istore 9, 2) := by decide +kernel
theorem zd_W_joinBelow_17 : decode zb_W_joinBelow 17 = .ok (.iload 9, 2) := by decide +kernel
theorem zd_W_joinBelow_19 : decode zb_W_joinBelow 19 = .ok (.iconst 3, 1) := by decide +kernel
theorem zd_W_joinBelow_20 : decode zb_W_joinBelow 20 = .ok (.if_icmp .ge 66, 3) := by decide +kernel
theorem zd_W_joinBelow_23 : decode zb_W_joinBelow 23 = .ok (.aload_n 0, 1) := by decide +kernel
theorem zd_W_joinBelow_24 : decode zb_W_joinBelow 24 = .ok (.iload_n 3, 1) := by decide +kernel
theorem zd_W_joinBelow_25 : decode zb_W_joinBelow 25 = .ok (.iload 4, 2) := by decide +kernel
theorem zd_W_joinBelow_27 : decode zb_W_joinBelow 27 = .ok (.iload 9, 2) := by decide +kernel
theorem zd_W_joinBelow_29 : decode zb_W_joinBelow 29 = .ok (.invokevirtual 155, 3) := by decide +kernel
theorem zd_W_joinBelow_32 : decode zb_W_joinBelow 32 = .ok (.istore 10, 2) := by decide +kernel
theorem zd_W_joinBelow_34 : decode zb_W_joinBelow 34 = .ok (.iconst 0, 1) := by decide +kernel
theorem zd_W_joinBelow_35 : decode zb_W_joinBelow 35 = .ok (.istore 11, 2) := by decide +kernel
theorem zd_W_joinBelow_37 : decode zb_W_joinBelow 37 = .ok (.iload 11, 2) := by decide +kernel
theorem zd_W_joinBelow_39 : decode zb_W_joinBelow 39 = .ok (.iload 10, 2) := by decide +kernel
theorem zd_W_joinBelow_41 : decode zb_W_joinBelow 41 = .ok (.if_icmp .ge 39, 3) := by decide +kernel
theorem zd_W_joinBelow_44 : decode zb_W_joinBelow 44 = .ok (.aload_n 0, 1) := by decide +kernel
theorem zd_W_joinBelow_45 : decode zb_W_joinBelow 45 = .ok (.getfield 12, 3) := by decide +kernel
theorem zd_W_joinBelow_48 : decode zb_W_joinBelow 48 = .ok (.iload_n 3, 1) := by decide +kernel
theorem zd_W_joinBelow_49 : decode zb_W_joinBelow 49 = .ok (.iload 9, 2) := by decide +kernel
theorem zd_W_joinBelow_51 : decode zb_W_joinBelow 51 = .ok (.iload 11, 2) := by decide +kernel
theorem zd_W_joinBelow_53 : decode zb_W_joinBelow 53 = .ok (.invokevirtual 158, 3) := by decide +kernel
theorem zd_W_joinBelow_56 : decode zb_W_joinBelow 56 = .ok (.istore 12, 2) := by decide +kernel
theorem zd_W_joinBelow_58 : decode zb_W_joinBelow 58 = .ok (.aload_n 0, 1) := by decide +kernel
theorem zd_W_joinBelow_59 : decode zb_W_joinBelow 59 = .ok (.iload 6, 2) := by decide +kernel
theorem zd_W_joinBelow_61 : decode zb_W_joinBelow 61 = .ok (.lload 7, 2) := by decide +kernel
theorem zd_W_joinBelow_63 : decode zb_W_joinBelow 63 = .ok (.iload 12, 2) := by decide +kernel
theorem zd_W_joinBelow_65 : decode zb_W_joinBelow 65 = .ok (.iload 4, 2) := by decide +kernel
theorem zd_W_joinBelow_67 : decode zb_W_joinBelow 67 = .ok (.iload 5, 2) := by decide +kernel
theorem zd_W_joinBelow_69 : decode zb_W_joinBelow 69 = .ok (.invokevirtual 200, 3) := by decide +kernel
theorem zd_W_joinBelow_72 : decode zb_W_joinBelow 72 = .ok (.lstore 7, 2) := by decide +kernel
theorem zd_W_joinBelow_74 : decode zb_W_joinBelow 74 = .ok (.iinc 11 1, 3) := by decide +kernel
theorem zd_W_joinBelow_77 : decode zb_W_joinBelow 77 = .ok (.goto (-40), 3) := by decide +kernel
theorem zd_W_joinBelow_80 : decode zb_W_joinBelow 80 = .ok (.iinc 9 1, 3) := by decide +kernel
theorem zd_W_joinBelow_83 : decode zb_W_joinBelow 83 = .ok (.goto (-66), 3) := by decide +kernel
theorem zd_W_joinBelow_86 : decode zb_W_joinBelow 86 = .ok (.lload 7, 2) := by decide +kernel
theorem zd_W_joinBelow_88 : decode zb_W_joinBelow 88 = .ok (.lreturn, 1) := by decide +kernel
theorem zd_W_joinPart_0 : decode zb_W_joinPart 0 = .ok (.aload_n 0, 1) := by decide +kernel
theorem zd_W_joinPart_1 : decode zb_W_joinPart 1 = .ok (.getfield 26, 3) := by decide +kernel
theorem zd_W_joinPart_4 : decode zb_W_joinPart 4 = .ok (.iload 4, 2) := by decide +kernel
theorem zd_W_joinPart_6 : decode zb_W_joinPart 6 = .ok (.iload 5, 2) := by decide +kernel
theorem zd_W_joinPart_8 : decode zb_W_joinPart 8 = .ok (.iload 6, 2) := by decide +kernel
theorem zd_W_joinPart_10 : decode zb_W_joinPart 10 = .ok (.invokevirtual 98, 3) := by decide +kernel
theorem zd_W_joinPart_13 : decode zb_W_joinPart 13 = .ok (.iconst 1, 1) := by decide +kernel
theorem zd_W_joinPart_14 : decode zb_W_joinPart 14 = .ok (.if_icmp .eq 5, 3) := by decide +kernel
theorem zd_W_joinPart_17 : decode zb_W_joinPart 17 = .ok (.lload_n 2, 1) := by decide +kernel
theorem zd_W_joinPart_18 : decode zb_W_joinPart 18 = .ok (.lreturn, 1) := by decide +kernel
theorem zd_W_joinPart_19 : decode zb_W_joinPart 19 = .ok (.aload_n 0, 1) := by decide +kernel
theorem zd_W_joinPart_20 : decode zb_W_joinPart 20 = .ok (.getfield 26, 3) := by decide +kernel
theorem zd_W_joinPart_23 : decode zb_W_joinPart 23 = .ok (.iload 4, 2) := by decide +kernel
theorem zd_W_joinPart_25 : decode zb_W_joinPart 25 = .ok (.iload 5, 2) := by decide +kernel
theorem zd_W_joinPart_27 : decode zb_W_joinPart 27 = .ok (.iload 6, 2) := by decide +kernel
theorem zd_W_joinPart_29 : decode zb_W_joinPart 29 = .ok (.invokevirtual 114, 3) := by decide +kernel
theorem zd_W_joinPart_32 : decode zb_W_joinPart 32 = .ok (.lstore 7, 2) := by decide +kernel
theorem zd_W_joinPart_34 : decode zb_W_joinPart 34 = .ok (.iload_n 1, 1) := by decide +kernel
theorem zd_W_joinPart_35 : decode zb_W_joinPart 35 = .ok (.lookupswitch 41 #[(1, 25), (2, 32)], 25) := by decide +kernel
theorem zd_W_joinPart_60 : decode zb_W_joinPart 60 = .ok (.lload_n 2, 1) := by decide +kernel
theorem zd_W_joinPart_61 : decode zb_W_joinPart 61 = .ok (.lload 7, 2) := by decide +kernel
theorem zd_W_joinPart_63 : decode zb_W_joinPart 63 = .ok (.invokestatic 204, 3) := by decide +kernel
theorem zd_W_joinPart_66 : decode zb_W_joinPart 66 = .ok (.lreturn, 1) := by decide +kernel
theorem zd_W_joinPart_67 : decode zb_W_joinPart 67 = .ok (.ldc2_w 210, 3) := by decide +kernel
theorem zd_W_joinPart_70 : decode zb_W_joinPart 70 = .ok (.lload_n 2, 1) := by decide +kernel
theorem zd_W_joinPart_71 : decode zb_W_joinPart 71 = .ok (.lmul, 1) := by decide +kernel
theorem zd_W_joinPart_72 : decode zb_W_joinPart 72 = .ok (.lload 7, 2) := by decide +kernel
theorem zd_W_joinPart_74 : decode zb_W_joinPart 74 = .ok (.ladd, 1) := by decide +kernel
theorem zd_W_joinPart_75 : decode zb_W_joinPart 75 = .ok (.lreturn, 1) := by decide +kernel
theorem zd_W_joinPart_76 : decode zb_W_joinPart 76 = .ok (.lload_n 2, 1) := by decide +kernel
theorem zd_W_joinPart_77 : decode zb_W_joinPart 77 = .ok (.lload 7, 2) := by decide +kernel
theorem zd_W_joinPart_79 : decode zb_W_joinPart 79 = .ok (.ladd, 1) := by decide +kernel
theorem zd_W_joinPart_80 : decode zb_W_joinPart 80 = .ok (.lreturn, 1) := by decide +kernel
theorem zd_M_resultOf_0 : decode zb_M_resultOf 0 = .ok (.aload_n 0, 1) := by decide +kernel
theorem zd_M_resultOf_1 : decode zb_M_resultOf 1 = .ok (.getfield 21, 3) := by decide +kernel
theorem zd_M_resultOf_4 : decode zb_M_resultOf 4 = .ok (.iload_n 1, 1) := by decide +kernel
theorem zd_M_resultOf_5 : decode zb_M_resultOf 5 = .ok (.iload_n 2, 1) := by decide +kernel
theorem zd_M_resultOf_6 : decode zb_M_resultOf 6 = .ok (.invokestatic 37, 3) := by decide +kernel
theorem zd_M_resultOf_9 : decode zb_M_resultOf 9 = .ok (.bipush 16, 2) := by decide +kernel
theorem zd_M_resultOf_11 : decode zb_M_resultOf 11 = .ok (.imul, 1) := by decide +kernel
theorem zd_M_resultOf_12 : decode zb_M_resultOf 12 = .ok (.iload_n 3, 1) := by decide +kernel
theorem zd_M_resultOf_13 : decode zb_M_resultOf 13 = .ok (.iadd, 1) := by decide +kernel
theorem zd_M_resultOf_14 : decode zb_M_resultOf 14 = .ok (.laload, 1) := by decide +kernel
theorem zd_M_resultOf_15 : decode zb_M_resultOf 15 = .ok (.lreturn, 1) := by decide +kernel
theorem zd_Jm_max_0 : decode zb_Jm_max 0 = .ok (.lload_n 0, 1) := by decide +kernel
theorem zd_Jm_max_1 : decode zb_Jm_max 1 = .ok (.lload_n 2, 1) := by decide +kernel
theorem zd_Jm_max_2 : decode zb_Jm_max 2 = .ok (.lcmp, 1) := by decide +kernel
theorem zd_Jm_max_3 : decode zb_Jm_max 3 = .ok (.ifCond .lt 7, 3) := by decide +kernel
theorem zd_Jm_max_6 : decode zb_Jm_max 6 = .ok (.lload_n 0, 1) := by decide +kernel
theorem zd_Jm_max_7 : decode zb_Jm_max 7 = .ok (.goto 4, 3) := by decide +kernel
theorem zd_Jm_max_10 : decode zb_Jm_max 10 = .ok (.lload_n 2, 1) := by decide +kernel
theorem zd_Jm_max_11 : decode zb_Jm_max 11 = .ok (.lreturn, 1) := by decide +kernel
theorem zd_W_joinNeeds_0 : decode zb_W_joinNeeds 0 = .ok (.aload_n 0, 1) := by decide +kernel
theorem zd_W_joinNeeds_1 : decode zb_W_joinNeeds 1 = .ok (.getfield 19, 3) := by decide +kernel
theorem zd_W_joinNeeds_4 : decode zb_W_joinNeeds 4 = .ok (.iload 4, 2) := by decide +kernel
theorem zd_W_joinNeeds_6 : decode zb_W_joinNeeds 6 = .ok (.invokevirtual 186, 3) := by decide +kernel
theorem zd_W_joinNeeds_9 : decode zb_W_joinNeeds 9 = .ok (.istore 6, 2) := by decide +kernel
theorem zd_W_joinNeeds_11 : decode zb_W_joinNeeds 11 = .ok (.lload_n 1, 1) := by decide +kernel
theorem zd_W_joinNeeds_12 : decode zb_W_joinNeeds 12 = .ok (.lstore 7, 2) := by decide +kernel
theorem zd_W_joinNeeds_14 : decode zb_W_joinNeeds 14 = .ok (.iconst 0, 1) := by decide +kernel
theorem zd_W_joinNeeds_15 : decode zb_W_joinNeeds 15 = .ok (.istore 9, 2) := by decide +kernel
theorem zd_W_joinNeeds_17 : decode zb_W_joinNeeds 17 = .ok (.iload 9, 2) := by decide +kernel
theorem zd_W_joinNeeds_19 : decode zb_W_joinNeeds 19 = .ok (.aload_n 0, 1) := by decide +kernel
theorem zd_W_joinNeeds_20 : decode zb_W_joinNeeds 20 = .ok (.getfield 19, 3) := by decide +kernel
theorem zd_W_joinNeeds_23 : decode zb_W_joinNeeds 23 = .ok (.iload 4, 2) := by decide +kernel
theorem zd_W_joinNeeds_25 : decode zb_W_joinNeeds 25 = .ok (.invokevirtual 78, 3) := by decide +kernel
theorem zd_W_joinNeeds_28 : decode zb_W_joinNeeds 28 = .ok (.if_icmp .ge 33, 3) := by decide +kernel
theorem zd_W_joinNeeds_31 : decode zb_W_joinNeeds 31 = .ok (.aload_n 0, 1) := by decide +kernel
theorem zd_W_joinNeeds_32 : decode zb_W_joinNeeds 32 = .ok (.iload 6, 2) := by decide +kernel
theorem zd_W_joinNeeds_34 : decode zb_W_joinNeeds 34 = .ok (.lload 7, 2) := by decide +kernel
theorem zd_W_joinNeeds_36 : decode zb_W_joinNeeds 36 = .ok (.iload_n 3, 1) := by decide +kernel
theorem zd_W_joinNeeds_37 : decode zb_W_joinNeeds 37 = .ok (.aload_n 0, 1) := by decide +kernel
theorem zd_W_joinNeeds_38 : decode zb_W_joinNeeds 38 = .ok (.getfield 19, 3) := by decide +kernel
theorem zd_W_joinNeeds_41 : decode zb_W_joinNeeds 41 = .ok (.iload 4, 2) := by decide +kernel
theorem zd_W_joinNeeds_43 : decode zb_W_joinNeeds 43 = .ok (.iload 9, 2) := by decide +kernel
theorem zd_W_joinNeeds_45 : decode zb_W_joinNeeds 45 = .ok (.invokevirtual 152, 3) := by decide +kernel
theorem zd_W_joinNeeds_48 : decode zb_W_joinNeeds 48 = .ok (.iload 5, 2) := by decide +kernel
theorem zd_W_joinNeeds_50 : decode zb_W_joinNeeds 50 = .ok (.invokevirtual 200, 3) := by decide +kernel
theorem zd_W_joinNeeds_53 : decode zb_W_joinNeeds 53 = .ok (.lstore 7, 2) := by decide +kernel
theorem zd_W_joinNeeds_55 : decode zb_W_joinNeeds 55 = .ok (.iinc 9 1, 3) := by decide +kernel
theorem zd_W_joinNeeds_58 : decode zb_W_joinNeeds 58 = .ok (.goto (-41), 3) := by decide +kernel
theorem zd_W_joinNeeds_61 : decode zb_W_joinNeeds 61 = .ok (.lload 7, 2) := by decide +kernel
theorem zd_W_joinNeeds_63 : decode zb_W_joinNeeds 63 = .ok (.lreturn, 1) := by decide +kernel
theorem zd_M_keepDone_0 : decode zb_M_keepDone 0 = .ok (.iload_n 1, 1) := by decide +kernel
theorem zd_M_keepDone_1 : decode zb_M_keepDone 1 = .ok (.iload_n 2, 1) := by decide +kernel
theorem zd_M_keepDone_2 : decode zb_M_keepDone 2 = .ok (.invokestatic 37, 3) := by decide +kernel
theorem zd_M_keepDone_5 : decode zb_M_keepDone 5 = .ok (.istore 6, 2) := by decide +kernel
theorem zd_M_keepDone_7 : decode zb_M_keepDone 7 = .ok (.aload_n 0, 1) := by decide +kernel
theorem zd_M_keepDone_8 : decode zb_M_keepDone 8 = .ok (.getfield 11, 3) := by decide +kernel
theorem zd_M_keepDone_11 : decode zb_M_keepDone 11 = .ok (.iload 6, 2) := by decide +kernel
theorem zd_M_keepDone_13 : decode zb_M_keepDone 13 = .ok (.dup2, 1) := by decide +kernel
theorem zd_M_keepDone_14 : decode zb_M_keepDone 14 = .ok (.iaload, 1) := by decide +kernel
theorem zd_M_keepDone_15 : decode zb_M_keepDone 15 = .ok (.iconst 1, 1) := by decide +kernel
theorem zd_M_keepDone_16 : decode zb_M_keepDone 16 = .ok (.iload_n 3, 1) := by decide +kernel
theorem zd_M_keepDone_17 : decode zb_M_keepDone 17 = .ok (.ishl, 1) := by decide +kernel
theorem zd_M_keepDone_18 : decode zb_M_keepDone 18 = .ok (.ior, 1) := by decide +kernel
theorem zd_M_keepDone_19 : decode zb_M_keepDone 19 = .ok (.iastore, 1) := by decide +kernel
theorem zd_M_keepDone_20 : decode zb_M_keepDone 20 = .ok (.aload_n 0, 1) := by decide +kernel
theorem zd_M_keepDone_21 : decode zb_M_keepDone 21 = .ok (.getfield 18, 3) := by decide +kernel
theorem zd_M_keepDone_24 : decode zb_M_keepDone 24 = .ok (.iload 6, 2) := by decide +kernel
theorem zd_M_keepDone_26 : decode zb_M_keepDone 26 = .ok (.dup2, 1) := by decide +kernel
theorem zd_M_keepDone_27 : decode zb_M_keepDone 27 = .ok (.iaload, 1) := by decide +kernel
theorem zd_M_keepDone_28 : decode zb_M_keepDone 28 = .ok (.iconst 1, 1) := by decide +kernel
theorem zd_M_keepDone_29 : decode zb_M_keepDone 29 = .ok (.iadd, 1) := by decide +kernel
theorem zd_M_keepDone_30 : decode zb_M_keepDone 30 = .ok (.iastore, 1) := by decide +kernel
theorem zd_M_keepDone_31 : decode zb_M_keepDone 31 = .ok (.aload_n 0, 1) := by decide +kernel
theorem zd_M_keepDone_32 : decode zb_M_keepDone 32 = .ok (.getfield 21, 3) := by decide +kernel
theorem zd_M_keepDone_35 : decode zb_M_keepDone 35 = .ok (.iload 6, 2) := by decide +kernel
theorem zd_M_keepDone_37 : decode zb_M_keepDone 37 = .ok (.bipush 16, 2) := by decide +kernel
theorem zd_M_keepDone_39 : decode zb_M_keepDone 39 = .ok (.imul, 1) := by decide +kernel
theorem zd_M_keepDone_40 : decode zb_M_keepDone 40 = .ok (.iload_n 3, 1) := by decide +kernel
theorem zd_M_keepDone_41 : decode zb_M_keepDone 41 = .ok (.iadd, 1) := by decide +kernel
theorem zd_M_keepDone_42 : decode zb_M_keepDone 42 = .ok (.lload 4, 2) := by decide +kernel
theorem zd_M_keepDone_44 : decode zb_M_keepDone 44 = .ok (.lastore, 1) := by decide +kernel
theorem zd_M_keepDone_45 : decode zb_M_keepDone 45 = .ok (.aload_n 0, 1) := by decide +kernel
theorem zd_M_keepDone_46 : decode zb_M_keepDone 46 = .ok (.dup, 1) := by decide +kernel
theorem zd_M_keepDone_47 : decode zb_M_keepDone 47 = .ok (.getfield 41, 3) := by decide +kernel
theorem zd_M_keepDone_50 : decode zb_M_keepDone 50 = .ok (.iconst 1, 1) := by decide +kernel
theorem zd_M_keepDone_51 : decode zb_M_keepDone 51 = .ok (.iadd, 1) := by decide +kernel
theorem zd_M_keepDone_52 : decode zb_M_keepDone 52 = .ok (.putfield 41, 3) := by decide +kernel
theorem zd_M_keepDone_55 : decode zb_M_keepDone 55 = .ok (.return_, 1) := by decide +kernel
theorem zd_W_clash_0 : decode zb_W_clash 0 = .ok (.iload_n 1, 1) := by decide +kernel
theorem zd_W_clash_1 : decode zb_W_clash 1 = .ok (.ifCond .lt 17, 3) := by decide +kernel
theorem zd_W_clash_4 : decode zb_W_clash 4 = .ok (.iload_n 1, 1) := by decide +kernel
theorem zd_W_clash_5 : decode zb_W_clash 5 = .ok (.iconst 5, 1) := by decide +kernel
theorem zd_W_clash_6 : decode zb_W_clash 6 = .ok (.if_icmp .ge 12, 3) := by decide +kernel
theorem zd_W_clash_9 : decode zb_W_clash 9 = .ok (.aload_n 0, 1) := by decide +kernel
theorem zd_W_clash_10 : decode zb_W_clash 10 = .ok (.getfield 30, 3) := by decide +kernel
theorem zd_W_clash_13 : decode zb_W_clash 13 = .ok (.iload_n 1, 1) := by decide +kernel
theorem zd_W_clash_14 : decode zb_W_clash 14 = .ok (.iaload, 1) := by decide +kernel
theorem zd_W_clash_15 : decode zb_W_clash 15 = .ok (.goto 4, 3) := by decide +kernel
theorem zd_W_clash_18 : decode zb_W_clash 18 = .ok (.iconst (-1), 1) := by decide +kernel
theorem zd_W_clash_19 : decode zb_W_clash 19 = .ok (.ireturn, 1) := by decide +kernel
theorem zd_W_state_0 : decode zb_W_state 0 = .ok (.aload_n 0, 1) := by decide +kernel
theorem zd_W_state_1 : decode zb_W_state 1 = .ok (.iload_n 1, 1) := by decide +kernel
theorem zd_W_state_2 : decode zb_W_state 2 = .ok (.iload_n 2, 1) := by decide +kernel
theorem zd_W_state_3 : decode zb_W_state 3 = .ok (.iload_n 3, 1) := by decide +kernel
theorem zd_W_state_4 : decode zb_W_state 4 = .ok (.invokevirtual 91, 3) := by decide +kernel
theorem zd_W_state_7 : decode zb_W_state 7 = .ok (.ifCond .ne 5, 3) := by decide +kernel
theorem zd_W_state_10 : decode zb_W_state 10 = .ok (.iconst (-1), 1) := by decide +kernel
theorem zd_W_state_11 : decode zb_W_state 11 = .ok (.ireturn, 1) := by decide +kernel
theorem zd_W_state_12 : decode zb_W_state 12 = .ok (.aload_n 0, 1) := by decide +kernel
theorem zd_W_state_13 : decode zb_W_state 13 = .ok (.getfield 26, 3) := by decide +kernel
theorem zd_W_state_16 : decode zb_W_state 16 = .ok (.aload_n 0, 1) := by decide +kernel
theorem zd_W_state_17 : decode zb_W_state 17 = .ok (.getfield 12, 3) := by decide +kernel
theorem zd_W_state_20 : decode zb_W_state 20 = .ok (.iload_n 1, 1) := by decide +kernel
theorem zd_W_state_21 : decode zb_W_state 21 = .ok (.invokevirtual 52, 3) := by decide +kernel
theorem zd_W_state_24 : decode zb_W_state 24 = .ok (.iload_n 2, 1) := by decide +kernel
theorem zd_W_state_25 : decode zb_W_state 25 = .ok (.iload_n 3, 1) := by decide +kernel
theorem zd_W_state_26 : decode zb_W_state 26 = .ok (.invokevirtual 98, 3) := by decide +kernel
theorem zd_W_state_29 : decode zb_W_state 29 = .ok (.ireturn, 1) := by decide +kernel
theorem zd_W_worked_0 : decode zb_W_worked 0 = .ok (.aload_n 0, 1) := by decide +kernel
theorem zd_W_worked_1 : decode zb_W_worked 1 = .ok (.getfield 12, 3) := by decide +kernel
theorem zd_W_worked_4 : decode zb_W_worked 4 = .ok (.iload_n 1, 1) := by decide +kernel
theorem zd_W_worked_5 : decode zb_W_worked 5 = .ok (.invokevirtual 44, 3) := by decide +kernel
theorem zd_W_worked_8 : decode zb_W_worked 8 = .ok (.ifCond .eq 14, 3) := by decide +kernel
theorem zd_W_worked_11 : decode zb_W_worked 11 = .ok (.aload_n 0, 1) := by decide +kernel
theorem zd_W_worked_12 : decode zb_W_worked 12 = .ok (.getfield 19, 3) := by decide +kernel
theorem zd_W_worked_15 : decode zb_W_worked 15 = .ok (.iload_n 2, 1) := by decide +kernel
theorem zd_W_worked_16 : decode zb_W_worked 16 = .ok (.invokevirtual 73, 3) := by decide +kernel
theorem zd_W_worked_19 : decode zb_W_worked 19 = .ok (.ifCond .ne 5, 3) := by decide +kernel
theorem zd_W_worked_22 : decode zb_W_worked 22 = .ok (.iconst 0, 1) := by decide +kernel
theorem zd_W_worked_23 : decode zb_W_worked 23 = .ok (.ireturn, 1) := by decide +kernel
theorem zd_W_worked_24 : decode zb_W_worked 24 = .ok (.aload_n 0, 1) := by decide +kernel
theorem zd_W_worked_25 : decode zb_W_worked 25 = .ok (.getfield 26, 3) := by decide +kernel
theorem zd_W_worked_28 : decode zb_W_worked 28 = .ok (.aload_n 0, 1) := by decide +kernel
theorem zd_W_worked_29 : decode zb_W_worked 29 = .ok (.getfield 12, 3) := by decide +kernel
theorem zd_W_worked_32 : decode zb_W_worked 32 = .ok (.iload_n 1, 1) := by decide +kernel
theorem zd_W_worked_33 : decode zb_W_worked 33 = .ok (.invokevirtual 52, 3) := by decide +kernel
theorem zd_W_worked_36 : decode zb_W_worked 36 = .ok (.iload_n 2, 1) := by decide +kernel
theorem zd_W_worked_37 : decode zb_W_worked 37 = .ok (.invokevirtual 118, 3) := by decide +kernel
theorem zd_W_worked_40 : decode zb_W_worked 40 = .ok (.ireturn, 1) := by decide +kernel
theorem zd_M_timesDone_0 : decode zb_M_timesDone 0 = .ok (.aload_n 0, 1) := by decide +kernel
theorem zd_M_timesDone_1 : decode zb_M_timesDone 1 = .ok (.getfield 18, 3) := by decide +kernel
theorem zd_M_timesDone_4 : decode zb_M_timesDone 4 = .ok (.iload_n 1, 1) := by decide +kernel
theorem zd_M_timesDone_5 : decode zb_M_timesDone 5 = .ok (.iload_n 2, 1) := by decide +kernel
theorem zd_M_timesDone_6 : decode zb_M_timesDone 6 = .ok (.invokestatic 37, 3) := by decide +kernel
theorem zd_M_timesDone_9 : decode zb_M_timesDone 9 = .ok (.iaload, 1) := by decide +kernel
theorem zd_M_timesDone_10 : decode zb_M_timesDone 10 = .ok (.ireturn, 1) := by decide +kernel
theorem zd_W_done_0 : decode zb_W_done 0 = .ok (.aload_n 0, 1) := by decide +kernel
theorem zd_W_done_1 : decode zb_W_done 1 = .ok (.getfield 26, 3) := by decide +kernel
theorem zd_W_done_4 : decode zb_W_done 4 = .ok (.invokevirtual 122, 3) := by decide +kernel
theorem zd_W_done_7 : decode zb_W_done 7 = .ok (.ireturn, 1) := by decide +kernel
theorem zd_M_doneCount_0 : decode zb_M_doneCount 0 = .ok (.aload_n 0, 1) := by decide +kernel
theorem zd_M_doneCount_1 : decode zb_M_doneCount 1 = .ok (.getfield 41, 3) := by decide +kernel
theorem zd_M_doneCount_4 : decode zb_M_doneCount 4 = .ok (.ireturn, 1) := by decide +kernel
theorem zd_W_maker_0 : decode zb_W_maker 0 = .ok (.aload_n 0, 1) := by decide +kernel
theorem zd_W_maker_1 : decode zb_W_maker 1 = .ok (.getfield 12, 3) := by decide +kernel
theorem zd_W_maker_4 : decode zb_W_maker 4 = .ok (.iload_n 1, 1) := by decide +kernel
theorem zd_W_maker_5 : decode zb_W_maker 5 = .ok (.invokevirtual 44, 3) := by decide +kernel
theorem zd_W_maker_8 : decode zb_W_maker 8 = .ok (.ifCond .eq 13, 3) := by decide +kernel
theorem zd_W_maker_11 : decode zb_W_maker 11 = .ok (.iload_n 2, 1) := by decide +kernel
theorem zd_W_maker_12 : decode zb_W_maker 12 = .ok (.ifCond .lt 9, 3) := by decide +kernel
theorem zd_W_maker_15 : decode zb_W_maker 15 = .ok (.iload_n 2, 1) := by decide +kernel
theorem zd_W_maker_16 : decode zb_W_maker 16 = .ok (.bipush 10, 2) := by decide +kernel
theorem zd_W_maker_18 : decode zb_W_maker 18 = .ok (.if_icmp .lt 5, 3) := by decide +kernel
theorem zd_W_maker_21 : decode zb_W_maker 21 = .ok (.iconst (-1), 1) := by decide +kernel
theorem zd_W_maker_22 : decode zb_W_maker 22 = .ok (.ireturn, 1) := by decide +kernel
theorem zd_W_maker_23 : decode zb_W_maker 23 = .ok (.aload_n 0, 1) := by decide +kernel
theorem zd_W_maker_24 : decode zb_W_maker 24 = .ok (.getfield 26, 3) := by decide +kernel
theorem zd_W_maker_27 : decode zb_W_maker 27 = .ok (.aload_n 0, 1) := by decide +kernel
theorem zd_W_maker_28 : decode zb_W_maker 28 = .ok (.getfield 12, 3) := by decide +kernel
theorem zd_W_maker_31 : decode zb_W_maker 31 = .ok (.iload_n 1, 1) := by decide +kernel
theorem zd_W_maker_32 : decode zb_W_maker 32 = .ok (.invokevirtual 52, 3) := by decide +kernel
theorem zd_W_maker_35 : decode zb_W_maker 35 = .ok (.iload_n 2, 1) := by decide +kernel
theorem zd_W_maker_36 : decode zb_W_maker 36 = .ok (.invokevirtual 126, 3) := by decide +kernel
theorem zd_W_maker_39 : decode zb_W_maker 39 = .ok (.ireturn, 1) := by decide +kernel
theorem zd_L_result_0 : decode zb_L_result 0 = .ok (.aload 4, 2) := by decide +kernel
theorem zd_L_result_2 : decode zb_L_result 2 = .ok (.iconst 0, 1) := by decide +kernel
theorem zd_L_result_3 : decode zb_L_result 3 = .ok (.aload_n 0, 1) := by decide +kernel
theorem zd_L_result_4 : decode zb_L_result 4 = .ok (.iload_n 1, 1) := by decide +kernel
theorem zd_L_result_5 : decode zb_L_result 5 = .ok (.iload_n 2, 1) := by decide +kernel
theorem zd_L_result_6 : decode zb_L_result 6 = .ok (.iload_n 3, 1) := by decide +kernel
theorem zd_L_result_7 : decode zb_L_result 7 = .ok (.invokevirtual 7, 3) := by decide +kernel
theorem zd_L_result_10 : decode zb_L_result 10 = .ok (.lastore, 1) := by decide +kernel
theorem zd_L_result_11 : decode zb_L_result 11 = .ok (.goto 11, 3) := by decide +kernel
theorem zd_L_result_14 : decode zb_L_result 14 = .ok (.astore 5, 2) := by decide +kernel
theorem zd_L_result_16 : decode zb_L_result 16 = .ok (.iconst 1, 1) := by decide +kernel
theorem zd_L_result_17 : decode zb_L_result 17 = .ok (.ireturn, 1) := by decide +kernel
theorem zd_L_result_18 : decode zb_L_result 18 = .ok (.astore 5, 2) := by decide +kernel
theorem zd_L_result_20 : decode zb_L_result 20 = .ok (.iconst 2, 1) := by decide +kernel
theorem zd_L_result_21 : decode zb_L_result 21 = .ok (.ireturn, 1) := by decide +kernel
theorem zd_L_result_22 : decode zb_L_result 22 = .ok (.iconst 0, 1) := by decide +kernel
theorem zd_L_result_23 : decode zb_L_result 23 = .ok (.ireturn, 1) := by decide +kernel
theorem zd_W_result_0 : decode zb_W_result 0 = .ok (.aload_n 0, 1) := by decide +kernel
theorem zd_W_result_1 : decode zb_W_result 1 = .ok (.iload_n 1, 1) := by decide +kernel
theorem zd_W_result_2 : decode zb_W_result 2 = .ok (.iload_n 2, 1) := by decide +kernel
theorem zd_W_result_3 : decode zb_W_result 3 = .ok (.iload_n 3, 1) := by decide +kernel
theorem zd_W_result_4 : decode zb_W_result 4 = .ok (.invokevirtual 91, 3) := by decide +kernel
theorem zd_W_result_7 : decode zb_W_result 7 = .ok (.ifCond .ne 13, 3) := by decide +kernel
theorem zd_W_result_10 : decode zb_W_result 10 = .ok (.new 102, 3) := by decide +kernel
theorem zd_W_result_13 : decode zb_W_result 13 = .ok (.dup, 1) := by decide +kernel
theorem zd_W_result_14 : decode zb_W_result 14 = .ok (.ldc 104, 2) := by decide +kernel
theorem zd_W_result_16 : decode zb_W_result 16 = .ok (.invokespecial 106, 3) := by decide +kernel
theorem zd_W_result_19 : decode zb_W_result 19 = .ok (.athrow, 1) := by decide +kernel
theorem zd_W_result_20 : decode zb_W_result 20 = .ok (.aload_n 0, 1) := by decide +kernel
theorem zd_W_result_21 : decode zb_W_result 21 = .ok (.getfield 12, 3) := by decide +kernel
theorem zd_W_result_24 : decode zb_W_result 24 = .ok (.iload_n 1, 1) := by decide +kernel
theorem zd_W_result_25 : decode zb_W_result 25 = .ok (.invokevirtual 52, 3) := by decide +kernel
theorem zd_W_result_28 : decode zb_W_result 28 = .ok (.istore 4, 2) := by decide +kernel
theorem zd_W_result_30 : decode zb_W_result 30 = .ok (.aload_n 0, 1) := by decide +kernel
theorem zd_W_result_31 : decode zb_W_result 31 = .ok (.getfield 26, 3) := by decide +kernel
theorem zd_W_result_34 : decode zb_W_result 34 = .ok (.iload 4, 2) := by decide +kernel
theorem zd_W_result_36 : decode zb_W_result 36 = .ok (.iload_n 2, 1) := by decide +kernel
theorem zd_W_result_37 : decode zb_W_result 37 = .ok (.iload_n 3, 1) := by decide +kernel
theorem zd_W_result_38 : decode zb_W_result 38 = .ok (.invokevirtual 98, 3) := by decide +kernel
theorem zd_W_result_41 : decode zb_W_result 41 = .ok (.iconst 1, 1) := by decide +kernel
theorem zd_W_result_42 : decode zb_W_result 42 = .ok (.if_icmp .eq 13, 3) := by decide +kernel
theorem zd_W_result_45 : decode zb_W_result 45 = .ok (.new 109, 3) := by decide +kernel
theorem zd_W_result_48 : decode zb_W_result 48 = .ok (.dup, 1) := by decide +kernel
theorem zd_W_result_49 : decode zb_W_result 49 = .ok (.ldc 111, 2) := by decide +kernel
theorem zd_W_result_51 : decode zb_W_result 51 = .ok (.invokespecial 113, 3) := by decide +kernel
theorem zd_W_result_54 : decode zb_W_result 54 = .ok (.athrow, 1) := by decide +kernel
theorem zd_W_result_55 : decode zb_W_result 55 = .ok (.aload_n 0, 1) := by decide +kernel
theorem zd_W_result_56 : decode zb_W_result 56 = .ok (.getfield 26, 3) := by decide +kernel
theorem zd_W_result_59 : decode zb_W_result 59 = .ok (.iload 4, 2) := by decide +kernel
theorem zd_W_result_61 : decode zb_W_result 61 = .ok (.iload_n 2, 1) := by decide +kernel
theorem zd_W_result_62 : decode zb_W_result 62 = .ok (.iload_n 3, 1) := by decide +kernel
theorem zd_W_result_63 : decode zb_W_result 63 = .ok (.invokevirtual 114, 3) := by decide +kernel
theorem zd_W_result_66 : decode zb_W_result 66 = .ok (.lreturn, 1) := by decide +kernel
theorem zd_R_init_0 : decode zb_R_init 0 = .ok (.aload_n 0, 1) := by decide +kernel
theorem zd_R_init_1 : decode zb_R_init 1 = .ok (.invokespecial 1, 3) := by decide +kernel
theorem zd_R_init_4 : decode zb_R_init 4 = .ok (.aload_n 0, 1) := by decide +kernel
theorem zd_R_init_5 : decode zb_R_init 5 = .ok (.bipush 20, 2) := by decide +kernel
theorem zd_R_init_7 : decode zb_R_init 7 = .ok (.newarray .int, 2) := by decide +kernel
theorem zd_R_init_9 : decode zb_R_init 9 = .ok (.putfield 7, 3) := by decide +kernel
theorem zd_R_init_12 : decode zb_R_init 12 = .ok (.aload_n 0, 1) := by decide +kernel
theorem zd_R_init_13 : decode zb_R_init 13 = .ok (.bipush 20, 2) := by decide +kernel
theorem zd_R_init_15 : decode zb_R_init 15 = .ok (.newarray .long, 2) := by decide +kernel
theorem zd_R_init_17 : decode zb_R_init 17 = .ok (.putfield 13, 3) := by decide +kernel
theorem zd_R_init_20 : decode zb_R_init 20 = .ok (.aload_n 0, 1) := by decide +kernel
theorem zd_R_init_21 : decode zb_R_init 21 = .ok (.bipush 20, 2) := by decide +kernel
theorem zd_R_init_23 : decode zb_R_init 23 = .ok (.newarray .int, 2) := by decide +kernel
theorem zd_R_init_25 : decode zb_R_init 25 = .ok (.putfield 17, 3) := by decide +kernel
theorem zd_R_init_28 : decode zb_R_init 28 = .ok (.aload_n 0, 1) := by decide +kernel
theorem zd_R_init_29 : decode zb_R_init 29 = .ok (.bipush 60, 2) := by decide +kernel
theorem zd_R_init_31 : decode zb_R_init 31 = .ok (.newarray .int, 2) := by decide +kernel
theorem zd_R_init_33 : decode zb_R_init 33 = .ok (.putfield 20, 3) := by decide +kernel
theorem zd_R_init_36 : decode zb_R_init 36 = .ok (.aload_n 0, 1) := by decide +kernel
theorem zd_R_init_37 : decode zb_R_init 37 = .ok (.sipush 240, 3) := by decide +kernel
theorem zd_R_init_40 : decode zb_R_init 40 = .ok (.newarray .int, 2) := by decide +kernel
theorem zd_R_init_42 : decode zb_R_init 42 = .ok (.putfield 23, 3) := by decide +kernel
theorem zd_R_init_45 : decode zb_R_init 45 = .ok (.aload_n 0, 1) := by decide +kernel
theorem zd_R_init_46 : decode zb_R_init 46 = .ok (.bipush 8, 2) := by decide +kernel
theorem zd_R_init_48 : decode zb_R_init 48 = .ok (.newarray .int, 2) := by decide +kernel
theorem zd_R_init_50 : decode zb_R_init 50 = .ok (.putfield 26, 3) := by decide +kernel
theorem zd_R_init_53 : decode zb_R_init 53 = .ok (.aload_n 0, 1) := by decide +kernel
theorem zd_R_init_54 : decode zb_R_init 54 = .ok (.bipush 8, 2) := by decide +kernel
theorem zd_R_init_56 : decode zb_R_init 56 = .ok (.newarray .int, 2) := by decide +kernel
theorem zd_R_init_58 : decode zb_R_init 58 = .ok (.putfield 29, 3) := by decide +kernel
theorem zd_R_init_61 : decode zb_R_init 61 = .ok (.aload_n 0, 1) := by decide +kernel
theorem zd_R_init_62 : decode zb_R_init 62 = .ok (.bipush 8, 2) := by decide +kernel
theorem zd_R_init_64 : decode zb_R_init 64 = .ok (.newarray .int, 2) := by decide +kernel
theorem zd_R_init_66 : decode zb_R_init 66 = .ok (.putfield 32, 3) := by decide +kernel
theorem zd_R_init_69 : decode zb_R_init 69 = .ok (.aload_n 0, 1) := by decide +kernel
theorem zd_R_init_70 : decode zb_R_init 70 = .ok (.bipush 8, 2) := by decide +kernel
theorem zd_R_init_72 : decode zb_R_init 72 = .ok (.newarray .int, 2) := by decide +kernel
theorem zd_R_init_74 : decode zb_R_init 74 = .ok (.putfield 35, 3) := by decide +kernel
theorem zd_R_init_77 : decode zb_R_init 77 = .ok (.aload_n 0, 1) := by decide +kernel
theorem zd_R_init_78 : decode zb_R_init 78 = .ok (.bipush 8, 2) := by decide +kernel
theorem zd_R_init_80 : decode zb_R_init 80 = .ok (.newarray .int, 2) := by decide +kernel
theorem zd_R_init_82 : decode zb_R_init 82 = .ok (.putfield 38, 3) := by decide +kernel
theorem zd_R_init_85 : decode zb_R_init 85 = .ok (.aload_n 0, 1) := by decide +kernel
theorem zd_R_init_86 : decode zb_R_init 86 = .ok (.bipush 8, 2) := by decide +kernel
theorem zd_R_init_88 : decode zb_R_init 88 = .ok (.newarray .int, 2) := by decide +kernel
theorem zd_R_init_90 : decode zb_R_init 90 = .ok (.putfield 41, 3) := by decide +kernel
theorem zd_R_init_93 : decode zb_R_init 93 = .ok (.aload_n 0, 1) := by decide +kernel
theorem zd_R_init_94 : decode zb_R_init 94 = .ok (.bipush 24, 2) := by decide +kernel
theorem zd_R_init_96 : decode zb_R_init 96 = .ok (.newarray .int, 2) := by decide +kernel
theorem zd_R_init_98 : decode zb_R_init 98 = .ok (.putfield 44, 3) := by decide +kernel
theorem zd_R_init_101 : decode zb_R_init 101 = .ok (.aload_n 0, 1) := by decide +kernel
theorem zd_R_init_102 : decode zb_R_init 102 = .ok (.sipush 2560, 3) := by decide +kernel
theorem zd_R_init_105 : decode zb_R_init 105 = .ok (.newarray .int, 2) := by decide +kernel
theorem zd_R_init_107 : decode zb_R_init 107 = .ok (.putfield 47, 3) := by decide +kernel
theorem zd_R_init_110 : decode zb_R_init 110 = .ok (.aload_n 0, 1) := by decide +kernel
theorem zd_R_init_111 : decode zb_R_init 111 = .ok (.sipush 2560, 3) := by decide +kernel
theorem zd_R_init_114 : decode zb_R_init 114 = .ok (.newarray .long, 2) := by decide +kernel
theorem zd_R_init_116 : decode zb_R_init 116 = .ok (.putfield 50, 3) := by decide +kernel
theorem zd_R_init_119 : decode zb_R_init 119 = .ok (.aload_n 0, 1) := by decide +kernel
theorem zd_R_init_120 : decode zb_R_init 120 = .ok (.sipush 160, 3) := by decide +kernel
theorem zd_R_init_123 : decode zb_R_init 123 = .ok (.newarray .int, 2) := by decide +kernel
theorem zd_R_init_125 : decode zb_R_init 125 = .ok (.putfield 53, 3) := by decide +kernel
theorem zd_R_init_128 : decode zb_R_init 128 = .ok (.aload_n 0, 1) := by decide +kernel
theorem zd_R_init_129 : decode zb_R_init 129 = .ok (.sipush 200, 3) := by decide +kernel
theorem zd_R_init_132 : decode zb_R_init 132 = .ok (.newarray .int, 2) := by decide +kernel
theorem zd_R_init_134 : decode zb_R_init 134 = .ok (.putfield 56, 3) := by decide +kernel
theorem zd_R_init_137 : decode zb_R_init 137 = .ok (.aload_n 0, 1) := by decide +kernel
theorem zd_R_init_138 : decode zb_R_init 138 = .ok (.iconst 5, 1) := by decide +kernel
theorem zd_R_init_139 : decode zb_R_init 139 = .ok (.newarray .int, 2) := by decide +kernel
theorem zd_R_init_141 : decode zb_R_init 141 = .ok (.putfield 59, 3) := by decide +kernel
theorem zd_R_init_144 : decode zb_R_init 144 = .ok (.aload_n 0, 1) := by decide +kernel
theorem zd_R_init_145 : decode zb_R_init 145 = .ok (.sipush 170, 3) := by decide +kernel
theorem zd_R_init_148 : decode zb_R_init 148 = .ok (.newarray .int, 2) := by decide +kernel
theorem zd_R_init_150 : decode zb_R_init 150 = .ok (.putfield 62, 3) := by decide +kernel
theorem zd_R_init_153 : decode zb_R_init 153 = .ok (.aload_n 0, 1) := by decide +kernel
theorem zd_R_init_154 : decode zb_R_init 154 = .ok (.sipush 170, 3) := by decide +kernel
theorem zd_R_init_157 : decode zb_R_init 157 = .ok (.newarray .int, 2) := by decide +kernel
theorem zd_R_init_159 : decode zb_R_init 159 = .ok (.putfield 65, 3) := by decide +kernel
theorem zd_R_init_162 : decode zb_R_init 162 = .ok (.aload_n 0, 1) := by decide +kernel
theorem zd_R_init_163 : decode zb_R_init 163 = .ok (.bipush 20, 2) := by decide +kernel
theorem zd_R_init_165 : decode zb_R_init 165 = .ok (.newarray .boolean, 2) := by decide +kernel
theorem zd_R_init_167 : decode zb_R_init 167 = .ok (.putfield 68, 3) := by decide +kernel
theorem zd_R_init_170 : decode zb_R_init 170 = .ok (.iconst 0, 1) := by decide +kernel
theorem zd_R_init_171 : decode zb_R_init 171 = .ok (.istore_n 1, 1) := by decide +kernel
theorem zd_R_init_172 : decode zb_R_init 172 = .ok (.iload_n 1, 1) := by decide +kernel
theorem zd_R_init_173 : decode zb_R_init 173 = .ok (.sipush 200, 3) := by decide +kernel
theorem zd_R_init_176 : decode zb_R_init 176 = .ok (.if_icmp .ge 16, 3) := by decide +kernel
theorem zd_R_init_179 : decode zb_R_init 179 = .ok (.aload_n 0, 1) := by decide +kernel
theorem zd_R_init_180 : decode zb_R_init 180 = .ok (.getfield 56, 3) := by decide +kernel
theorem zd_R_init_183 : decode zb_R_init 183 = .ok (.iload_n 1, 1) := by decide +kernel
theorem zd_R_init_184 : decode zb_R_init 184 = .ok (.iconst (-1), 1) := by decide +kernel
theorem zd_R_init_185 : decode zb_R_init 185 = .ok (.iastore, 1) := by decide +kernel
theorem zd_R_init_186 : decode zb_R_init 186 = .ok (.iinc 1 1, 3) := by decide +kernel
theorem zd_R_init_189 : decode zb_R_init 189 = .ok (.goto (-17), 3) := by decide +kernel
theorem zd_R_init_192 : decode zb_R_init 192 = .ok (.iconst 0, 1) := by decide +kernel
theorem zd_R_init_193 : decode zb_R_init 193 = .ok (.istore_n 1, 1) := by decide +kernel
theorem zd_R_init_194 : decode zb_R_init 194 = .ok (.iload_n 1, 1) := by decide +kernel
theorem zd_R_init_195 : decode zb_R_init 195 = .ok (.iconst 5, 1) := by decide +kernel
theorem zd_R_init_196 : decode zb_R_init 196 = .ok (.if_icmp .ge 16, 3) := by decide +kernel
theorem zd_R_init_199 : decode zb_R_init 199 = .ok (.aload_n 0, 1) := by decide +kernel
theorem zd_R_init_200 : decode zb_R_init 200 = .ok (.getfield 59, 3) := by decide +kernel
theorem zd_R_init_203 : decode zb_R_init 203 = .ok (.iload_n 1, 1) := by decide +kernel
theorem zd_R_init_204 : decode zb_R_init 204 = .ok (.iconst (-1), 1) := by decide +kernel
theorem zd_R_init_205 : decode zb_R_init 205 = .ok (.iastore, 1) := by decide +kernel
theorem zd_R_init_206 : decode zb_R_init 206 = .ok (.iinc 1 1, 3) := by decide +kernel
theorem zd_R_init_209 : decode zb_R_init 209 = .ok (.goto (-15), 3) := by decide +kernel
theorem zd_R_init_212 : decode zb_R_init 212 = .ok (.return_, 1) := by decide +kernel
theorem zd_R_thrown_0 : decode zb_R_thrown 0 = .ok (.aload_n 0, 1) := by decide +kernel
theorem zd_R_thrown_1 : decode zb_R_thrown 1 = .ok (.getfield 72, 3) := by decide +kernel
theorem zd_R_thrown_4 : decode zb_R_thrown 4 = .ok (.ireturn, 1) := by decide +kernel
theorem zd_R_target_0 : decode zb_R_target 0 = .ok (.aload_n 0, 1) := by decide +kernel
theorem zd_R_target_1 : decode zb_R_target 1 = .ok (.iconst 0, 1) := by decide +kernel
theorem zd_R_target_2 : decode zb_R_target 2 = .ok (.putfield 72, 3) := by decide +kernel
theorem zd_R_target_5 : decode zb_R_target 5 = .ok (.aload_n 0, 1) := by decide +kernel
theorem zd_R_target_6 : decode zb_R_target 6 = .ok (.getfield 76, 3) := by decide +kernel
theorem zd_R_target_9 : decode zb_R_target 9 = .ok (.bipush 20, 2) := by decide +kernel
theorem zd_R_target_11 : decode zb_R_target 11 = .ok (.if_icmp .ne 5, 3) := by decide +kernel
theorem zd_R_target_14 : decode zb_R_target 14 = .ok (.iconst (-1), 1) := by decide +kernel
theorem zd_R_target_15 : decode zb_R_target 15 = .ok (.ireturn, 1) := by decide +kernel
theorem zd_R_target_16 : decode zb_R_target 16 = .ok (.aload_n 0, 1) := by decide +kernel
theorem zd_R_target_17 : decode zb_R_target 17 = .ok (.getfield 7, 3) := by decide +kernel
theorem zd_R_target_20 : decode zb_R_target 20 = .ok (.aload_n 0, 1) := by decide +kernel
theorem zd_R_target_21 : decode zb_R_target 21 = .ok (.getfield 76, 3) := by decide +kernel
theorem zd_R_target_24 : decode zb_R_target 24 = .ok (.aload_n 0, 1) := by decide +kernel
theorem zd_R_target_25 : decode zb_R_target 25 = .ok (.getfield 76, 3) := by decide +kernel
theorem zd_R_target_28 : decode zb_R_target 28 = .ok (.iastore, 1) := by decide +kernel
theorem zd_R_target_29 : decode zb_R_target 29 = .ok (.aload_n 0, 1) := by decide +kernel
theorem zd_R_target_30 : decode zb_R_target 30 = .ok (.getfield 13, 3) := by decide +kernel
theorem zd_R_target_33 : decode zb_R_target 33 = .ok (.aload_n 0, 1) := by decide +kernel
theorem zd_R_target_34 : decode zb_R_target 34 = .ok (.getfield 76, 3) := by decide +kernel
theorem zd_R_target_37 : decode zb_R_target 37 = .ok (.lload_n 1, 1) := by decide +kernel
theorem zd_R_target_38 : decode zb_R_target 38 = .ok (.lastore, 1) := by decide +kernel
theorem zd_R_target_39 : decode zb_R_target 39 = .ok (.aload_n 0, 1) := by decide +kernel
theorem zd_R_target_40 : decode zb_R_target 40 = .ok (.getfield 17, 3) := by decide +kernel
theorem zd_R_target_43 : decode zb_R_target 43 = .ok (.aload_n 0, 1) := by decide +kernel
theorem zd_R_target_44 : decode zb_R_target 44 = .ok (.getfield 76, 3) := by decide +kernel
theorem zd_R_target_47 : decode zb_R_target 47 = .ok (.iload_n 3, 1) := by decide +kernel
theorem zd_R_target_48 : decode zb_R_target 48 = .ok (.sipush 255, 3) := by decide +kernel
theorem zd_R_target_51 : decode zb_R_target 51 = .ok (.iand, 1) := by decide +kernel
theorem zd_R_target_52 : decode zb_R_target 52 = .ok (.iastore, 1) := by decide +kernel
theorem zd_R_target_53 : decode zb_R_target 53 = .ok (.aload_n 0, 1) := by decide +kernel
theorem zd_R_target_54 : decode zb_R_target 54 = .ok (.dup, 1) := by decide +kernel
theorem zd_R_target_55 : decode zb_R_target 55 = .ok (.getfield 76, 3) := by decide +kernel
theorem zd_R_target_58 : decode zb_R_target 58 = .ok (.iconst 1, 1) := by decide +kernel
theorem zd_R_target_59 : decode zb_R_target 59 = .ok (.iadd, 1) := by decide +kernel
theorem zd_R_target_60 : decode zb_R_target 60 = .ok (.putfield 76, 3) := by decide +kernel
theorem zd_R_target_63 : decode zb_R_target 63 = .ok (.aload_n 0, 1) := by decide +kernel
theorem zd_R_target_64 : decode zb_R_target 64 = .ok (.getfield 76, 3) := by decide +kernel
theorem zd_R_target_67 : decode zb_R_target 67 = .ok (.iconst 1, 1) := by decide +kernel
theorem zd_R_target_68 : decode zb_R_target 68 = .ok (.isub, 1) := by decide +kernel
theorem zd_R_target_69 : decode zb_R_target 69 = .ok (.ireturn, 1) := by decide +kernel
theorem zd_R_alias_0 : decode zb_R_alias 0 = .ok (.aload_n 0, 1) := by decide +kernel
theorem zd_R_alias_1 : decode zb_R_alias 1 = .ok (.iconst 0, 1) := by decide +kernel
theorem zd_R_alias_2 : decode zb_R_alias 2 = .ok (.putfield 72, 3) := by decide +kernel
theorem zd_R_alias_5 : decode zb_R_alias 5 = .ok (.aload_n 0, 1) := by decide +kernel
theorem zd_R_alias_6 : decode zb_R_alias 6 = .ok (.getfield 76, 3) := by decide +kernel
theorem zd_R_alias_9 : decode zb_R_alias 9 = .ok (.bipush 20, 2) := by decide +kernel
theorem zd_R_alias_11 : decode zb_R_alias 11 = .ok (.if_icmp .eq 11, 3) := by decide +kernel
theorem zd_R_alias_14 : decode zb_R_alias 14 = .ok (.aload_n 0, 1) := by decide +kernel
theorem zd_R_alias_15 : decode zb_R_alias 15 = .ok (.iload_n 1, 1) := by decide +kernel
theorem zd_R_alias_16 : decode zb_R_alias 16 = .ok (.invokevirtual 82, 3) := by decide +kernel
theorem zd_R_alias_19 : decode zb_R_alias 19 = .ok (.ifCond .ne 5, 3) := by decide +kernel
theorem zd_R_alias_22 : decode zb_R_alias 22 = .ok (.iconst (-1), 1) := by decide +kernel
theorem zd_R_alias_23 : decode zb_R_alias 23 = .ok (.ireturn, 1) := by decide +kernel
theorem zd_R_alias_24 : decode zb_R_alias 24 = .ok (.aload_n 0, 1) := by decide +kernel
theorem zd_R_alias_25 : decode zb_R_alias 25 = .ok (.getfield 7, 3) := by decide +kernel
theorem zd_R_alias_28 : decode zb_R_alias 28 = .ok (.aload_n 0, 1) := by decide +kernel
theorem zd_R_alias_29 : decode zb_R_alias 29 = .ok (.getfield 76, 3) := by decide +kernel
theorem zd_R_alias_32 : decode zb_R_alias 32 = .ok (.aload_n 0, 1) := by decide +kernel
theorem zd_R_alias_33 : decode zb_R_alias 33 = .ok (.getfield 7, 3) := by decide +kernel
theorem zd_R_alias_36 : decode zb_R_alias 36 = .ok (.iload_n 1, 1) := by decide +kernel
theorem zd_R_alias_37 : decode zb_R_alias 37 = .ok (.iaload, 1) := by decide +kernel
theorem zd_R_alias_38 : decode zb_R_alias 38 = .ok (.iastore, 1) := by decide +kernel
theorem zd_R_alias_39 : decode zb_R_alias 39 = .ok (.aload_n 0, 1) := by decide +kernel
theorem zd_R_alias_40 : decode zb_R_alias 40 = .ok (.dup, 1) := by decide +kernel
theorem zd_R_alias_41 : decode zb_R_alias 41 = .ok (.getfield 76, 3) := by decide +kernel
theorem zd_R_alias_44 : decode zb_R_alias 44 = .ok (.iconst 1, 1) := by decide +kernel
theorem zd_R_alias_45 : decode zb_R_alias 45 = .ok (.iadd, 1) := by decide +kernel
theorem zd_R_alias_46 : decode zb_R_alias 46 = .ok (.putfield 76, 3) := by decide +kernel
theorem zd_R_alias_49 : decode zb_R_alias 49 = .ok (.aload_n 0, 1) := by decide +kernel
theorem zd_R_alias_50 : decode zb_R_alias 50 = .ok (.getfield 76, 3) := by decide +kernel
theorem zd_R_alias_53 : decode zb_R_alias 53 = .ok (.iconst 1, 1) := by decide +kernel
theorem zd_R_alias_54 : decode zb_R_alias 54 = .ok (.isub, 1) := by decide +kernel
theorem zd_R_alias_55 : decode zb_R_alias 55 = .ok (.ireturn, 1) := by decide +kernel
theorem zd_R_isTarget_0 : decode zb_R_isTarget 0 = .ok (.iload_n 1, 1) := by decide +kernel
theorem zd_R_isTarget_1 : decode zb_R_isTarget 1 = .ok (.ifCond .lt 15, 3) := by decide +kernel
theorem zd_R_isTarget_4 : decode zb_R_isTarget 4 = .ok (.iload_n 1, 1) := by decide +kernel
theorem zd_R_isTarget_5 : decode zb_R_isTarget 5 = .ok (.aload_n 0, 1) := by decide +kernel
theorem zd_R_isTarget_6 : decode zb_R_isTarget 6 = .ok (.getfield 76, 3) := by decide +kernel
theorem zd_R_isTarget_9 : decode zb_R_isTarget 9 = .ok (.if_icmp .ge 7, 3) := by decide +kernel
theorem zd_R_isTarget_12 : decode zb_R_isTarget 12 = .ok (.iconst 1, 1) := by decide +kernel
theorem zd_R_isTarget_13 : decode zb_R_isTarget 13 = .ok (.goto 4, 3) := by decide +kernel
theorem zd_R_isTarget_16 : decode zb_R_isTarget 16 = .ok (.iconst 0, 1) := by decide +kernel
theorem zd_R_isTarget_17 : decode zb_R_isTarget 17 = .ok (.ireturn, 1) := by decide +kernel
theorem zd_R_stands_0 : decode zb_R_stands 0 = .ok (.aload_n 0, 1) := by decide +kernel
theorem zd_R_stands_1 : decode zb_R_stands 1 = .ok (.iconst 0, 1) := by decide +kernel
theorem zd_R_stands_2 : decode zb_R_stands 2 = .ok (.putfield 72, 3) := by decide +kernel
theorem zd_R_stands_5 : decode zb_R_stands 5 = .ok (.aload_n 0, 1) := by decide +kernel
theorem zd_R_stands_6 : decode zb_R_stands 6 = .ok (.iload_n 1, 1) := by decide +kernel
theorem zd_R_stands_7 : decode zb_R_stands 7 = .ok (.invokevirtual 82, 3) := by decide +kernel
theorem zd_R_stands_10 : decode zb_R_stands 10 = .ok (.ifCond .eq 12, 3) := by decide +kernel
end
section
theorem zd_R_stands_13 : decode zb_R_stands 13 = .ok (.aload_n 0, 1) := by decide +kernel
theorem zd_R_stands_14 : decode zb_R_stands 14 = .ok (.getfield 7, 3) := by decide +kernel
theorem zd_R_stands_17 : decode zb_R_stands 17 = .ok (.iload_n 1, 1) := by decide +kernel
theorem zd_R_stands_18 : decode zb_R_stands 18 = .ok (.iaload, 1) := by decide +kernel
theorem zd_R_stands_19 : decode zb_R_stands 19 = .ok (.goto 4, 3) := by decide +kernel
theorem zd_R_stands_22 : decode zb_R_stands 22 = .ok (.iconst (-1), 1) := by decide +kernel
theorem zd_R_stands_23 : decode zb_R_stands 23 = .ok (.ireturn, 1) := by decide +kernel
theorem zd_R_add_0 : decode zb_R_add 0 = .ok (.aload_n 0, 1) := by decide +kernel
theorem zd_R_add_1 : decode zb_R_add 1 = .ok (.iconst 0, 1) := by decide +kernel
theorem zd_R_add_2 : decode zb_R_add 2 = .ok (.putfield 72, 3) := by decide +kernel
theorem zd_R_add_5 : decode zb_R_add 5 = .ok (.aload_n 0, 1) := by decide +kernel
theorem zd_R_add_6 : decode zb_R_add 6 = .ok (.iload_n 1, 1) := by decide +kernel
theorem zd_R_add_7 : decode zb_R_add 7 = .ok (.invokevirtual 93, 3) := by decide +kernel
theorem zd_R_add_10 : decode zb_R_add 10 = .ok (.ifCond .eq 39, 3) := by decide +kernel
theorem zd_R_add_13 : decode zb_R_add 13 = .ok (.aload_n 0, 1) := by decide +kernel
theorem zd_R_add_14 : decode zb_R_add 14 = .ok (.iload_n 3, 1) := by decide +kernel
theorem zd_R_add_15 : decode zb_R_add 15 = .ok (.invokevirtual 82, 3) := by decide +kernel
theorem zd_R_add_18 : decode zb_R_add 18 = .ok (.ifCond .eq 31, 3) := by decide +kernel
theorem zd_R_add_21 : decode zb_R_add 21 = .ok (.iload_n 2, 1) := by decide +kernel
theorem zd_R_add_22 : decode zb_R_add 22 = .ok (.ifCond .lt 27, 3) := by decide +kernel
theorem zd_R_add_25 : decode zb_R_add 25 = .ok (.iload_n 2, 1) := by decide +kernel
theorem zd_R_add_26 : decode zb_R_add 26 = .ok (.iconst 2, 1) := by decide +kernel
theorem zd_R_add_27 : decode zb_R_add 27 = .ok (.if_icmp .gt 22, 3) := by decide +kernel
theorem zd_R_add_30 : decode zb_R_add 30 = .ok (.iload_n 3, 1) := by decide +kernel
theorem zd_R_add_31 : decode zb_R_add 31 = .ok (.iload_n 1, 1) := by decide +kernel
theorem zd_R_add_32 : decode zb_R_add 32 = .ok (.if_icmp .ge 17, 3) := by decide +kernel
theorem zd_R_add_35 : decode zb_R_add 35 = .ok (.aload_n 0, 1) := by decide +kernel
theorem zd_R_add_36 : decode zb_R_add 36 = .ok (.getfield 20, 3) := by decide +kernel
theorem zd_R_add_39 : decode zb_R_add 39 = .ok (.iconst 3, 1) := by decide +kernel
theorem zd_R_add_40 : decode zb_R_add 40 = .ok (.iload_n 1, 1) := by decide +kernel
theorem zd_R_add_41 : decode zb_R_add 41 = .ok (.imul, 1) := by decide +kernel
theorem zd_R_add_42 : decode zb_R_add 42 = .ok (.iload_n 2, 1) := by decide +kernel
theorem zd_R_add_43 : decode zb_R_add 43 = .ok (.iadd, 1) := by decide +kernel
theorem zd_R_add_44 : decode zb_R_add 44 = .ok (.iaload, 1) := by decide +kernel
theorem zd_R_add_45 : decode zb_R_add 45 = .ok (.iconst 4, 1) := by decide +kernel
theorem zd_R_add_46 : decode zb_R_add 46 = .ok (.if_icmp .ne 5, 3) := by decide +kernel
theorem zd_R_add_49 : decode zb_R_add 49 = .ok (.iconst 0, 1) := by decide +kernel
theorem zd_R_add_50 : decode zb_R_add 50 = .ok (.ireturn, 1) := by decide +kernel
theorem zd_R_add_51 : decode zb_R_add 51 = .ok (.aload_n 0, 1) := by decide +kernel
theorem zd_R_add_52 : decode zb_R_add 52 = .ok (.getfield 23, 3) := by decide +kernel
theorem zd_R_add_55 : decode zb_R_add 55 = .ok (.bipush 12, 2) := by decide +kernel
theorem zd_R_add_57 : decode zb_R_add 57 = .ok (.iload_n 1, 1) := by decide +kernel
theorem zd_R_add_58 : decode zb_R_add 58 = .ok (.imul, 1) := by decide +kernel
theorem zd_R_add_59 : decode zb_R_add 59 = .ok (.iconst 4, 1) := by decide +kernel
theorem zd_R_add_60 : decode zb_R_add 60 = .ok (.iload_n 2, 1) := by decide +kernel
theorem zd_R_add_61 : decode zb_R_add 61 = .ok (.imul, 1) := by decide +kernel
theorem zd_R_add_62 : decode zb_R_add 62 = .ok (.iadd, 1) := by decide +kernel
theorem zd_R_add_63 : decode zb_R_add 63 = .ok (.aload_n 0, 1) := by decide +kernel
theorem zd_R_add_64 : decode zb_R_add 64 = .ok (.getfield 20, 3) := by decide +kernel
theorem zd_R_add_67 : decode zb_R_add 67 = .ok (.iconst 3, 1) := by decide +kernel
theorem zd_R_add_68 : decode zb_R_add 68 = .ok (.iload_n 1, 1) := by decide +kernel
theorem zd_R_add_69 : decode zb_R_add 69 = .ok (.imul, 1) := by decide +kernel
theorem zd_R_add_70 : decode zb_R_add 70 = .ok (.iload_n 2, 1) := by decide +kernel
theorem zd_R_add_71 : decode zb_R_add 71 = .ok (.iadd, 1) := by decide +kernel
theorem zd_R_add_72 : decode zb_R_add 72 = .ok (.iaload, 1) := by decide +kernel
theorem zd_R_add_73 : decode zb_R_add 73 = .ok (.iadd, 1) := by decide +kernel
theorem zd_R_add_74 : decode zb_R_add 74 = .ok (.iload_n 3, 1) := by decide +kernel
theorem zd_R_add_75 : decode zb_R_add 75 = .ok (.iastore, 1) := by decide +kernel
theorem zd_R_add_76 : decode zb_R_add 76 = .ok (.aload_n 0, 1) := by decide +kernel
theorem zd_R_add_77 : decode zb_R_add 77 = .ok (.getfield 20, 3) := by decide +kernel
theorem zd_R_add_80 : decode zb_R_add 80 = .ok (.iconst 3, 1) := by decide +kernel
theorem zd_R_add_81 : decode zb_R_add 81 = .ok (.iload_n 1, 1) := by decide +kernel
theorem zd_R_add_82 : decode zb_R_add 82 = .ok (.imul, 1) := by decide +kernel
theorem zd_R_add_83 : decode zb_R_add 83 = .ok (.iload_n 2, 1) := by decide +kernel
theorem zd_R_add_84 : decode zb_R_add 84 = .ok (.iadd, 1) := by decide +kernel
theorem zd_R_add_85 : decode zb_R_add 85 = .ok (.dup2, 1) := by decide +kernel
theorem zd_R_add_86 : decode zb_R_add 86 = .ok (.iaload, 1) := by decide +kernel
theorem zd_R_add_87 : decode zb_R_add 87 = .ok (.iconst 1, 1) := by decide +kernel
theorem zd_R_add_88 : decode zb_R_add 88 = .ok (.iadd, 1) := by decide +kernel
theorem zd_R_add_89 : decode zb_R_add 89 = .ok (.iastore, 1) := by decide +kernel
theorem zd_R_add_90 : decode zb_R_add 90 = .ok (.aload_n 0, 1) := by decide +kernel
theorem zd_R_add_91 : decode zb_R_add 91 = .ok (.iload_n 1, 1) := by decide +kernel
theorem zd_R_add_92 : decode zb_R_add 92 = .ok (.invokevirtual 96, 3) := by decide +kernel
theorem zd_R_add_95 : decode zb_R_add 95 = .ok (.iconst 1, 1) := by decide +kernel
theorem zd_R_add_96 : decode zb_R_add 96 = .ok (.ireturn, 1) := by decide +kernel
theorem zd_R_isOwn_0 : decode zb_R_isOwn 0 = .ok (.aload_n 0, 1) := by decide +kernel
theorem zd_R_isOwn_1 : decode zb_R_isOwn 1 = .ok (.iload_n 1, 1) := by decide +kernel
theorem zd_R_isOwn_2 : decode zb_R_isOwn 2 = .ok (.invokevirtual 82, 3) := by decide +kernel
theorem zd_R_isOwn_5 : decode zb_R_isOwn 5 = .ok (.ifCond .eq 17, 3) := by decide +kernel
theorem zd_R_isOwn_8 : decode zb_R_isOwn 8 = .ok (.aload_n 0, 1) := by decide +kernel
theorem zd_R_isOwn_9 : decode zb_R_isOwn 9 = .ok (.getfield 7, 3) := by decide +kernel
theorem zd_R_isOwn_12 : decode zb_R_isOwn 12 = .ok (.iload_n 1, 1) := by decide +kernel
theorem zd_R_isOwn_13 : decode zb_R_isOwn 13 = .ok (.iaload, 1) := by decide +kernel
theorem zd_R_isOwn_14 : decode zb_R_isOwn 14 = .ok (.iload_n 1, 1) := by decide +kernel
theorem zd_R_isOwn_15 : decode zb_R_isOwn 15 = .ok (.if_icmp .ne 7, 3) := by decide +kernel
theorem zd_R_isOwn_18 : decode zb_R_isOwn 18 = .ok (.iconst 1, 1) := by decide +kernel
theorem zd_R_isOwn_19 : decode zb_R_isOwn 19 = .ok (.goto 4, 3) := by decide +kernel
theorem zd_R_isOwn_22 : decode zb_R_isOwn 22 = .ok (.iconst 0, 1) := by decide +kernel
theorem zd_R_isOwn_23 : decode zb_R_isOwn 23 = .ok (.ireturn, 1) := by decide +kernel
theorem zd_R_forgetFrom_0 : decode zb_R_forgetFrom 0 = .ok (.iconst 0, 1) := by decide +kernel
theorem zd_R_forgetFrom_1 : decode zb_R_forgetFrom 1 = .ok (.istore_n 2, 1) := by decide +kernel
theorem zd_R_forgetFrom_2 : decode zb_R_forgetFrom 2 = .ok (.iload_n 2, 1) := by decide +kernel
theorem zd_R_forgetFrom_3 : decode zb_R_forgetFrom 3 = .ok (.aload_n 0, 1) := by decide +kernel
theorem zd_R_forgetFrom_4 : decode zb_R_forgetFrom 4 = .ok (.getfield 76, 3) := by decide +kernel
theorem zd_R_forgetFrom_7 : decode zb_R_forgetFrom 7 = .ok (.if_icmp .ge 57, 3) := by decide +kernel
theorem zd_R_forgetFrom_10 : decode zb_R_forgetFrom 10 = .ok (.aload_n 0, 1) := by decide +kernel
theorem zd_R_forgetFrom_11 : decode zb_R_forgetFrom 11 = .ok (.getfield 68, 3) := by decide +kernel
theorem zd_R_forgetFrom_14 : decode zb_R_forgetFrom 14 = .ok (.iload_n 2, 1) := by decide +kernel
theorem zd_R_forgetFrom_15 : decode zb_R_forgetFrom 15 = .ok (.iload_n 2, 1) := by decide +kernel
theorem zd_R_forgetFrom_16 : decode zb_R_forgetFrom 16 = .ok (.iload_n 1, 1) := by decide +kernel
theorem zd_R_forgetFrom_17 : decode zb_R_forgetFrom 17 = .ok (.if_icmp .eq 21, 3) := by decide +kernel
theorem zd_R_forgetFrom_20 : decode zb_R_forgetFrom 20 = .ok (.aload_n 0, 1) := by decide +kernel
theorem zd_R_forgetFrom_21 : decode zb_R_forgetFrom 21 = .ok (.getfield 7, 3) := by decide +kernel
theorem zd_R_forgetFrom_24 : decode zb_R_forgetFrom 24 = .ok (.iload_n 2, 1) := by decide +kernel
theorem zd_R_forgetFrom_25 : decode zb_R_forgetFrom 25 = .ok (.iaload, 1) := by decide +kernel
theorem zd_R_forgetFrom_26 : decode zb_R_forgetFrom 26 = .ok (.iload_n 2, 1) := by decide +kernel
theorem zd_R_forgetFrom_27 : decode zb_R_forgetFrom 27 = .ok (.if_icmp .ne 15, 3) := by decide +kernel
theorem zd_R_forgetFrom_30 : decode zb_R_forgetFrom 30 = .ok (.aload_n 0, 1) := by decide +kernel
theorem zd_R_forgetFrom_31 : decode zb_R_forgetFrom 31 = .ok (.iload_n 2, 1) := by decide +kernel
theorem zd_R_forgetFrom_32 : decode zb_R_forgetFrom 32 = .ok (.invokevirtual 86, 3) := by decide +kernel
theorem zd_R_forgetFrom_35 : decode zb_R_forgetFrom 35 = .ok (.ifCond .eq 7, 3) := by decide +kernel
theorem zd_R_forgetFrom_38 : decode zb_R_forgetFrom 38 = .ok (.iconst 1, 1) := by decide +kernel
theorem zd_R_forgetFrom_39 : decode zb_R_forgetFrom 39 = .ok (.goto 4, 3) := by decide +kernel
theorem zd_R_forgetFrom_42 : decode zb_R_forgetFrom 42 = .ok (.iconst 0, 1) := by decide +kernel
theorem zd_R_forgetFrom_43 : decode zb_R_forgetFrom 43 = .ok (.bastore, 1) := by decide +kernel
theorem zd_R_forgetFrom_44 : decode zb_R_forgetFrom 44 = .ok (.aload_n 0, 1) := by decide +kernel
theorem zd_R_forgetFrom_45 : decode zb_R_forgetFrom 45 = .ok (.getfield 68, 3) := by decide +kernel
theorem zd_R_forgetFrom_48 : decode zb_R_forgetFrom 48 = .ok (.iload_n 2, 1) := by decide +kernel
theorem zd_R_forgetFrom_49 : decode zb_R_forgetFrom 49 = .ok (.baload, 1) := by decide +kernel
theorem zd_R_forgetFrom_50 : decode zb_R_forgetFrom 50 = .ok (.ifCond .eq 8, 3) := by decide +kernel
theorem zd_R_forgetFrom_53 : decode zb_R_forgetFrom 53 = .ok (.aload_n 0, 1) := by decide +kernel
theorem zd_R_forgetFrom_54 : decode zb_R_forgetFrom 54 = .ok (.iload_n 2, 1) := by decide +kernel
theorem zd_R_forgetFrom_55 : decode zb_R_forgetFrom 55 = .ok (.invokevirtual 89, 3) := by decide +kernel
theorem zd_R_forgetFrom_58 : decode zb_R_forgetFrom 58 = .ok (.iinc 2 1, 3) := by decide +kernel
theorem zd_R_forgetFrom_61 : decode zb_R_forgetFrom 61 = .ok (.goto (-59), 3) := by decide +kernel
theorem zd_R_forgetFrom_64 : decode zb_R_forgetFrom 64 = .ok (.return_, 1) := by decide +kernel
theorem zd_R_hasTouched_0 : decode zb_R_hasTouched 0 = .ok (.iconst 0, 1) := by decide +kernel
theorem zd_R_hasTouched_1 : decode zb_R_hasTouched 1 = .ok (.istore_n 2, 1) := by decide +kernel
theorem zd_R_hasTouched_2 : decode zb_R_hasTouched 2 = .ok (.iconst 0, 1) := by decide +kernel
theorem zd_R_hasTouched_3 : decode zb_R_hasTouched 3 = .ok (.istore_n 3, 1) := by decide +kernel
theorem zd_R_hasTouched_4 : decode zb_R_hasTouched 4 = .ok (.iload_n 3, 1) := by decide +kernel
theorem zd_R_hasTouched_5 : decode zb_R_hasTouched 5 = .ok (.iconst 3, 1) := by decide +kernel
theorem zd_R_hasTouched_6 : decode zb_R_hasTouched 6 = .ok (.if_icmp .ge 72, 3) := by decide +kernel
theorem zd_R_hasTouched_9 : decode zb_R_hasTouched 9 = .ok (.iconst 0, 1) := by decide +kernel
theorem zd_R_hasTouched_10 : decode zb_R_hasTouched 10 = .ok (.istore 4, 2) := by decide +kernel
theorem zd_R_hasTouched_12 : decode zb_R_hasTouched 12 = .ok (.iload 4, 2) := by decide +kernel
theorem zd_R_hasTouched_14 : decode zb_R_hasTouched 14 = .ok (.aload_n 0, 1) := by decide +kernel
theorem zd_R_hasTouched_15 : decode zb_R_hasTouched 15 = .ok (.getfield 20, 3) := by decide +kernel
theorem zd_R_hasTouched_18 : decode zb_R_hasTouched 18 = .ok (.iconst 3, 1) := by decide +kernel
theorem zd_R_hasTouched_19 : decode zb_R_hasTouched 19 = .ok (.iload_n 1, 1) := by decide +kernel
theorem zd_R_hasTouched_20 : decode zb_R_hasTouched 20 = .ok (.imul, 1) := by decide +kernel
theorem zd_R_hasTouched_21 : decode zb_R_hasTouched 21 = .ok (.iload_n 3, 1) := by decide +kernel
theorem zd_R_hasTouched_22 : decode zb_R_hasTouched 22 = .ok (.iadd, 1) := by decide +kernel
theorem zd_R_hasTouched_23 : decode zb_R_hasTouched 23 = .ok (.iaload, 1) := by decide +kernel
theorem zd_R_hasTouched_24 : decode zb_R_hasTouched 24 = .ok (.if_icmp .ge 48, 3) := by decide +kernel
theorem zd_R_hasTouched_27 : decode zb_R_hasTouched 27 = .ok (.iload_n 2, 1) := by decide +kernel
theorem zd_R_hasTouched_28 : decode zb_R_hasTouched 28 = .ok (.ifCond .ne 32, 3) := by decide +kernel
theorem zd_R_hasTouched_31 : decode zb_R_hasTouched 31 = .ok (.aload_n 0, 1) := by decide +kernel
theorem zd_R_hasTouched_32 : decode zb_R_hasTouched 32 = .ok (.getfield 68, 3) := by decide +kernel
theorem zd_R_hasTouched_35 : decode zb_R_hasTouched 35 = .ok (.aload_n 0, 1) := by decide +kernel
theorem zd_R_hasTouched_36 : decode zb_R_hasTouched 36 = .ok (.getfield 7, 3) := by decide +kernel
theorem zd_R_hasTouched_39 : decode zb_R_hasTouched 39 = .ok (.aload_n 0, 1) := by decide +kernel
theorem zd_R_hasTouched_40 : decode zb_R_hasTouched 40 = .ok (.getfield 23, 3) := by decide +kernel
theorem zd_R_hasTouched_43 : decode zb_R_hasTouched 43 = .ok (.bipush 12, 2) := by decide +kernel
theorem zd_R_hasTouched_45 : decode zb_R_hasTouched 45 = .ok (.iload_n 1, 1) := by decide +kernel
theorem zd_R_hasTouched_46 : decode zb_R_hasTouched 46 = .ok (.imul, 1) := by decide +kernel
theorem zd_R_hasTouched_47 : decode zb_R_hasTouched 47 = .ok (.iconst 4, 1) := by decide +kernel
theorem zd_R_hasTouched_48 : decode zb_R_hasTouched 48 = .ok (.iload_n 3, 1) := by decide +kernel
theorem zd_R_hasTouched_49 : decode zb_R_hasTouched 49 = .ok (.imul, 1) := by decide +kernel
theorem zd_R_hasTouched_50 : decode zb_R_hasTouched 50 = .ok (.iadd, 1) := by decide +kernel
theorem zd_R_hasTouched_51 : decode zb_R_hasTouched 51 = .ok (.iload 4, 2) := by decide +kernel
theorem zd_R_hasTouched_53 : decode zb_R_hasTouched 53 = .ok (.iadd, 1) := by decide +kernel
theorem zd_R_hasTouched_54 : decode zb_R_hasTouched 54 = .ok (.iaload, 1) := by decide +kernel
theorem zd_R_hasTouched_55 : decode zb_R_hasTouched 55 = .ok (.iaload, 1) := by decide +kernel
theorem zd_R_hasTouched_56 : decode zb_R_hasTouched 56 = .ok (.baload, 1) := by decide +kernel
theorem zd_R_hasTouched_57 : decode zb_R_hasTouched 57 = .ok (.ifCond .eq 7, 3) := by decide +kernel
theorem zd_R_hasTouched_60 : decode zb_R_hasTouched 60 = .ok (.iconst 1, 1) := by decide +kernel
theorem zd_R_hasTouched_61 : decode zb_R_hasTouched 61 = .ok (.goto 4, 3) := by decide +kernel
theorem zd_R_hasTouched_64 : decode zb_R_hasTouched 64 = .ok (.iconst 0, 1) := by decide +kernel
theorem zd_R_hasTouched_65 : decode zb_R_hasTouched 65 = .ok (.istore_n 2, 1) := by decide +kernel
theorem zd_R_hasTouched_66 : decode zb_R_hasTouched 66 = .ok (.iinc 4 1, 3) := by decide +kernel
theorem zd_R_hasTouched_69 : decode zb_R_hasTouched 69 = .ok (.goto (-57), 3) := by decide +kernel
theorem zd_R_hasTouched_72 : decode zb_R_hasTouched 72 = .ok (.iinc 3 1, 3) := by decide +kernel
theorem zd_R_hasTouched_75 : decode zb_R_hasTouched 75 = .ok (.goto (-71), 3) := by decide +kernel
theorem zd_R_hasTouched_78 : decode zb_R_hasTouched 78 = .ok (.iload_n 2, 1) := by decide +kernel
theorem zd_R_hasTouched_79 : decode zb_R_hasTouched 79 = .ok (.ireturn, 1) := by decide +kernel
theorem zd_R_forgetTarget_0 : decode zb_R_forgetTarget 0 = .ok (.iconst 0, 1) := by decide +kernel
theorem zd_R_forgetTarget_1 : decode zb_R_forgetTarget 1 = .ok (.istore_n 2, 1) := by decide +kernel
theorem zd_R_forgetTarget_2 : decode zb_R_forgetTarget 2 = .ok (.iload_n 2, 1) := by decide +kernel
theorem zd_R_forgetTarget_3 : decode zb_R_forgetTarget 3 = .ok (.sipush 128, 3) := by decide +kernel
theorem zd_R_forgetTarget_6 : decode zb_R_forgetTarget 6 = .ok (.if_icmp .ge 22, 3) := by decide +kernel
theorem zd_R_forgetTarget_9 : decode zb_R_forgetTarget 9 = .ok (.aload_n 0, 1) := by decide +kernel
theorem zd_R_forgetTarget_10 : decode zb_R_forgetTarget 10 = .ok (.getfield 47, 3) := by decide +kernel
theorem zd_R_forgetTarget_13 : decode zb_R_forgetTarget 13 = .ok (.sipush 128, 3) := by decide +kernel
theorem zd_R_forgetTarget_16 : decode zb_R_forgetTarget 16 = .ok (.iload_n 1, 1) := by decide +kernel
theorem zd_R_forgetTarget_17 : decode zb_R_forgetTarget 17 = .ok (.imul, 1) := by decide +kernel
theorem zd_R_forgetTarget_18 : decode zb_R_forgetTarget 18 = .ok (.iload_n 2, 1) := by decide +kernel
theorem zd_R_forgetTarget_19 : decode zb_R_forgetTarget 19 = .ok (.iadd, 1) := by decide +kernel
theorem zd_R_forgetTarget_20 : decode zb_R_forgetTarget 20 = .ok (.iconst 0, 1) := by decide +kernel
theorem zd_R_forgetTarget_21 : decode zb_R_forgetTarget 21 = .ok (.iastore, 1) := by decide +kernel
theorem zd_R_forgetTarget_22 : decode zb_R_forgetTarget 22 = .ok (.iinc 2 1, 3) := by decide +kernel
theorem zd_R_forgetTarget_25 : decode zb_R_forgetTarget 25 = .ok (.goto (-23), 3) := by decide +kernel
theorem zd_R_forgetTarget_28 : decode zb_R_forgetTarget 28 = .ok (.iconst 0, 1) := by decide +kernel
theorem zd_R_forgetTarget_29 : decode zb_R_forgetTarget 29 = .ok (.istore_n 2, 1) := by decide +kernel
theorem zd_R_forgetTarget_30 : decode zb_R_forgetTarget 30 = .ok (.iload_n 2, 1) := by decide +kernel
theorem zd_R_forgetTarget_31 : decode zb_R_forgetTarget 31 = .ok (.bipush 10, 2) := by decide +kernel
theorem zd_R_forgetTarget_33 : decode zb_R_forgetTarget 33 = .ok (.if_icmp .ge 21, 3) := by decide +kernel
theorem zd_R_forgetTarget_36 : decode zb_R_forgetTarget 36 = .ok (.aload_n 0, 1) := by decide +kernel
theorem zd_R_forgetTarget_37 : decode zb_R_forgetTarget 37 = .ok (.getfield 56, 3) := by decide +kernel
theorem zd_R_forgetTarget_40 : decode zb_R_forgetTarget 40 = .ok (.bipush 10, 2) := by decide +kernel
theorem zd_R_forgetTarget_42 : decode zb_R_forgetTarget 42 = .ok (.iload_n 1, 1) := by decide +kernel
theorem zd_R_forgetTarget_43 : decode zb_R_forgetTarget 43 = .ok (.imul, 1) := by decide +kernel
theorem zd_R_forgetTarget_44 : decode zb_R_forgetTarget 44 = .ok (.iload_n 2, 1) := by decide +kernel
theorem zd_R_forgetTarget_45 : decode zb_R_forgetTarget 45 = .ok (.iadd, 1) := by decide +kernel
theorem zd_R_forgetTarget_46 : decode zb_R_forgetTarget 46 = .ok (.iconst (-1), 1) := by decide +kernel
theorem zd_R_forgetTarget_47 : decode zb_R_forgetTarget 47 = .ok (.iastore, 1) := by decide +kernel
theorem zd_R_forgetTarget_48 : decode zb_R_forgetTarget 48 = .ok (.iinc 2 1, 3) := by decide +kernel
theorem zd_R_forgetTarget_51 : decode zb_R_forgetTarget 51 = .ok (.goto (-21), 3) := by decide +kernel
theorem zd_R_forgetTarget_54 : decode zb_R_forgetTarget 54 = .ok (.return_, 1) := by decide +kernel
theorem zd_R_change_0 : decode zb_R_change 0 = .ok (.aload_n 0, 1) := by decide +kernel
theorem zd_R_change_1 : decode zb_R_change 1 = .ok (.iconst 0, 1) := by decide +kernel
theorem zd_R_change_2 : decode zb_R_change 2 = .ok (.putfield 72, 3) := by decide +kernel
theorem zd_R_change_5 : decode zb_R_change 5 = .ok (.aload_n 0, 1) := by decide +kernel
theorem zd_R_change_6 : decode zb_R_change 6 = .ok (.iload_n 1, 1) := by decide +kernel
theorem zd_R_change_7 : decode zb_R_change 7 = .ok (.invokevirtual 93, 3) := by decide +kernel
theorem zd_R_change_10 : decode zb_R_change 10 = .ok (.ifCond .ne 5, 3) := by decide +kernel
theorem zd_R_change_13 : decode zb_R_change 13 = .ok (.iconst 0, 1) := by decide +kernel
theorem zd_R_change_14 : decode zb_R_change 14 = .ok (.ireturn, 1) := by decide +kernel
theorem zd_R_change_15 : decode zb_R_change 15 = .ok (.aload_n 0, 1) := by decide +kernel
theorem zd_R_change_16 : decode zb_R_change 16 = .ok (.getfield 13, 3) := by decide +kernel
theorem zd_R_change_19 : decode zb_R_change 19 = .ok (.iload_n 1, 1) := by decide +kernel
theorem zd_R_change_20 : decode zb_R_change 20 = .ok (.laload, 1) := by decide +kernel
theorem zd_R_change_21 : decode zb_R_change 21 = .ok (.lload_n 2, 1) := by decide +kernel
theorem zd_R_change_22 : decode zb_R_change 22 = .ok (.lcmp, 1) := by decide +kernel
theorem zd_R_change_23 : decode zb_R_change 23 = .ok (.ifCond .ne 18, 3) := by decide +kernel
theorem zd_R_change_26 : decode zb_R_change 26 = .ok (.aload_n 0, 1) := by decide +kernel
theorem zd_R_change_27 : decode zb_R_change 27 = .ok (.getfield 17, 3) := by decide +kernel
theorem zd_R_change_30 : decode zb_R_change 30 = .ok (.iload_n 1, 1) := by decide +kernel
theorem zd_R_change_31 : decode zb_R_change 31 = .ok (.iaload, 1) := by decide +kernel
theorem zd_R_change_32 : decode zb_R_change 32 = .ok (.iload 4, 2) := by decide +kernel
theorem zd_R_change_34 : decode zb_R_change 34 = .ok (.sipush 255, 3) := by decide +kernel
theorem zd_R_change_37 : decode zb_R_change 37 = .ok (.iand, 1) := by decide +kernel
theorem zd_R_change_38 : decode zb_R_change 38 = .ok (.if_icmp .eq 7, 3) := by decide +kernel
theorem zd_R_change_41 : decode zb_R_change 41 = .ok (.iconst 1, 1) := by decide +kernel
theorem zd_R_change_42 : decode zb_R_change 42 = .ok (.goto 4, 3) := by decide +kernel
theorem zd_R_change_45 : decode zb_R_change 45 = .ok (.iconst 0, 1) := by decide +kernel
theorem zd_R_change_46 : decode zb_R_change 46 = .ok (.istore 5, 2) := by decide +kernel
theorem zd_R_change_48 : decode zb_R_change 48 = .ok (.aload_n 0, 1) := by decide +kernel
theorem zd_R_change_49 : decode zb_R_change 49 = .ok (.getfield 13, 3) := by decide +kernel
theorem zd_R_change_52 : decode zb_R_change 52 = .ok (.iload_n 1, 1) := by decide +kernel
theorem zd_R_change_53 : decode zb_R_change 53 = .ok (.lload_n 2, 1) := by decide +kernel
theorem zd_R_change_54 : decode zb_R_change 54 = .ok (.lastore, 1) := by decide +kernel
theorem zd_R_change_55 : decode zb_R_change 55 = .ok (.aload_n 0, 1) := by decide +kernel
theorem zd_R_change_56 : decode zb_R_change 56 = .ok (.getfield 17, 3) := by decide +kernel
theorem zd_R_change_59 : decode zb_R_change 59 = .ok (.iload_n 1, 1) := by decide +kernel
theorem zd_R_change_60 : decode zb_R_change 60 = .ok (.iload 4, 2) := by decide +kernel
theorem zd_R_change_62 : decode zb_R_change 62 = .ok (.sipush 255, 3) := by decide +kernel
theorem zd_R_change_65 : decode zb_R_change 65 = .ok (.iand, 1) := by decide +kernel
theorem zd_R_change_66 : decode zb_R_change 66 = .ok (.iastore, 1) := by decide +kernel
theorem zd_R_change_67 : decode zb_R_change 67 = .ok (.iload 5, 2) := by decide +kernel
theorem zd_R_change_69 : decode zb_R_change 69 = .ok (.ifCond .eq 8, 3) := by decide +kernel
theorem zd_R_change_72 : decode zb_R_change 72 = .ok (.aload_n 0, 1) := by decide +kernel
theorem zd_R_change_73 : decode zb_R_change 73 = .ok (.iload_n 1, 1) := by decide +kernel
theorem zd_R_change_74 : decode zb_R_change 74 = .ok (.invokevirtual 96, 3) := by decide +kernel
theorem zd_R_change_77 : decode zb_R_change 77 = .ok (.iconst 1, 1) := by decide +kernel
theorem zd_R_change_78 : decode zb_R_change 78 = .ok (.ireturn, 1) := by decide +kernel
theorem zd_R_aspect_0 : decode zb_R_aspect 0 = .ok (.aload_n 0, 1) := by decide +kernel
theorem zd_R_aspect_1 : decode zb_R_aspect 1 = .ok (.iconst 0, 1) := by decide +kernel
theorem zd_R_aspect_2 : decode zb_R_aspect 2 = .ok (.putfield 72, 3) := by decide +kernel
theorem zd_R_aspect_5 : decode zb_R_aspect 5 = .ok (.aload_n 0, 1) := by decide +kernel
theorem zd_R_aspect_6 : decode zb_R_aspect 6 = .ok (.getfield 79, 3) := by decide +kernel
theorem zd_R_aspect_9 : decode zb_R_aspect 9 = .ok (.bipush 8, 2) := by decide +kernel
theorem zd_R_aspect_11 : decode zb_R_aspect 11 = .ok (.if_icmp .eq 25, 3) := by decide +kernel
theorem zd_R_aspect_14 : decode zb_R_aspect 14 = .ok (.iload_n 1, 1) := by decide +kernel
theorem zd_R_aspect_15 : decode zb_R_aspect 15 = .ok (.ifCond .lt 21, 3) := by decide +kernel
theorem zd_R_aspect_18 : decode zb_R_aspect 18 = .ok (.iload_n 1, 1) := by decide +kernel
theorem zd_R_aspect_19 : decode zb_R_aspect 19 = .ok (.iconst 3, 1) := by decide +kernel
theorem zd_R_aspect_20 : decode zb_R_aspect 20 = .ok (.if_icmp .gt 16, 3) := by decide +kernel
theorem zd_R_aspect_23 : decode zb_R_aspect 23 = .ok (.iload 5, 2) := by decide +kernel
theorem zd_R_aspect_25 : decode zb_R_aspect 25 = .ok (.iconst (-1), 1) := by decide +kernel
theorem zd_R_aspect_26 : decode zb_R_aspect 26 = .ok (.if_icmp .lt 10, 3) := by decide +kernel
theorem zd_R_aspect_29 : decode zb_R_aspect 29 = .ok (.iload 5, 2) := by decide +kernel
theorem zd_R_aspect_31 : decode zb_R_aspect 31 = .ok (.bipush 10, 2) := by decide +kernel
theorem zd_R_aspect_33 : decode zb_R_aspect 33 = .ok (.if_icmp .lt 5, 3) := by decide +kernel
theorem zd_R_aspect_36 : decode zb_R_aspect 36 = .ok (.iconst (-1), 1) := by decide +kernel
theorem zd_R_aspect_37 : decode zb_R_aspect 37 = .ok (.ireturn, 1) := by decide +kernel
theorem zd_R_aspect_38 : decode zb_R_aspect 38 = .ok (.aload_n 0, 1) := by decide +kernel
theorem zd_R_aspect_39 : decode zb_R_aspect 39 = .ok (.getfield 26, 3) := by decide +kernel
theorem zd_R_aspect_42 : decode zb_R_aspect 42 = .ok (.aload_n 0, 1) := by decide +kernel
theorem zd_R_aspect_43 : decode zb_R_aspect 43 = .ok (.getfield 79, 3) := by decide +kernel
theorem zd_R_aspect_46 : decode zb_R_aspect 46 = .ok (.iload_n 1, 1) := by decide +kernel
theorem zd_R_aspect_47 : decode zb_R_aspect 47 = .ok (.iastore, 1) := by decide +kernel
theorem zd_R_aspect_48 : decode zb_R_aspect 48 = .ok (.aload_n 0, 1) := by decide +kernel
theorem zd_R_aspect_49 : decode zb_R_aspect 49 = .ok (.getfield 29, 3) := by decide +kernel
theorem zd_R_aspect_52 : decode zb_R_aspect 52 = .ok (.aload_n 0, 1) := by decide +kernel
theorem zd_R_aspect_53 : decode zb_R_aspect 53 = .ok (.getfield 79, 3) := by decide +kernel
theorem zd_R_aspect_56 : decode zb_R_aspect 56 = .ok (.iload_n 2, 1) := by decide +kernel
theorem zd_R_aspect_57 : decode zb_R_aspect 57 = .ok (.bipush 7, 2) := by decide +kernel
theorem zd_R_aspect_59 : decode zb_R_aspect 59 = .ok (.iand, 1) := by decide +kernel
theorem zd_R_aspect_60 : decode zb_R_aspect 60 = .ok (.iastore, 1) := by decide +kernel
theorem zd_R_aspect_61 : decode zb_R_aspect 61 = .ok (.aload_n 0, 1) := by decide +kernel
theorem zd_R_aspect_62 : decode zb_R_aspect 62 = .ok (.getfield 32, 3) := by decide +kernel
theorem zd_R_aspect_65 : decode zb_R_aspect 65 = .ok (.aload_n 0, 1) := by decide +kernel
theorem zd_R_aspect_66 : decode zb_R_aspect 66 = .ok (.getfield 79, 3) := by decide +kernel
theorem zd_R_aspect_69 : decode zb_R_aspect 69 = .ok (.iload_n 3, 1) := by decide +kernel
theorem zd_R_aspect_70 : decode zb_R_aspect 70 = .ok (.sipush 255, 3) := by decide +kernel
theorem zd_R_aspect_73 : decode zb_R_aspect 73 = .ok (.iand, 1) := by decide +kernel
theorem zd_R_aspect_74 : decode zb_R_aspect 74 = .ok (.iastore, 1) := by decide +kernel
theorem zd_R_aspect_75 : decode zb_R_aspect 75 = .ok (.aload_n 0, 1) := by decide +kernel
theorem zd_R_aspect_76 : decode zb_R_aspect 76 = .ok (.getfield 35, 3) := by decide +kernel
theorem zd_R_aspect_79 : decode zb_R_aspect 79 = .ok (.aload_n 0, 1) := by decide +kernel
theorem zd_R_aspect_80 : decode zb_R_aspect 80 = .ok (.getfield 79, 3) := by decide +kernel
theorem zd_R_aspect_83 : decode zb_R_aspect 83 = .ok (.iload 4, 2) := by decide +kernel
theorem zd_R_aspect_85 : decode zb_R_aspect 85 = .ok (.sipush 255, 3) := by decide +kernel
theorem zd_R_aspect_88 : decode zb_R_aspect 88 = .ok (.iand, 1) := by decide +kernel
theorem zd_R_aspect_89 : decode zb_R_aspect 89 = .ok (.iastore, 1) := by decide +kernel
theorem zd_R_aspect_90 : decode zb_R_aspect 90 = .ok (.aload_n 0, 1) := by decide +kernel
theorem zd_R_aspect_91 : decode zb_R_aspect 91 = .ok (.getfield 38, 3) := by decide +kernel
theorem zd_R_aspect_94 : decode zb_R_aspect 94 = .ok (.aload_n 0, 1) := by decide +kernel
theorem zd_R_aspect_95 : decode zb_R_aspect 95 = .ok (.getfield 79, 3) := by decide +kernel
theorem zd_R_aspect_98 : decode zb_R_aspect 98 = .ok (.iload 5, 2) := by decide +kernel
theorem zd_R_aspect_100 : decode zb_R_aspect 100 = .ok (.iastore, 1) := by decide +kernel
theorem zd_R_aspect_101 : decode zb_R_aspect 101 = .ok (.aload_n 0, 1) := by decide +kernel
theorem zd_R_aspect_102 : decode zb_R_aspect 102 = .ok (.dup, 1) := by decide +kernel
theorem zd_R_aspect_103 : decode zb_R_aspect 103 = .ok (.getfield 79, 3) := by decide +kernel
theorem zd_R_aspect_106 : decode zb_R_aspect 106 = .ok (.iconst 1, 1) := by decide +kernel
theorem zd_R_aspect_107 : decode zb_R_aspect 107 = .ok (.iadd, 1) := by decide +kernel
theorem zd_R_aspect_108 : decode zb_R_aspect 108 = .ok (.putfield 79, 3) := by decide +kernel
theorem zd_R_aspect_111 : decode zb_R_aspect 111 = .ok (.aload_n 0, 1) := by decide +kernel
theorem zd_R_aspect_112 : decode zb_R_aspect 112 = .ok (.getfield 79, 3) := by decide +kernel
theorem zd_R_aspect_115 : decode zb_R_aspect 115 = .ok (.iconst 1, 1) := by decide +kernel
theorem zd_R_aspect_116 : decode zb_R_aspect 116 = .ok (.isub, 1) := by decide +kernel
theorem zd_R_aspect_117 : decode zb_R_aspect 117 = .ok (.ireturn, 1) := by decide +kernel
theorem zd_R_need_0 : decode zb_R_need 0 = .ok (.aload_n 0, 1) := by decide +kernel
theorem zd_R_need_1 : decode zb_R_need 1 = .ok (.iconst 0, 1) := by decide +kernel
theorem zd_R_need_2 : decode zb_R_need 2 = .ok (.putfield 72, 3) := by decide +kernel
theorem zd_R_need_5 : decode zb_R_need 5 = .ok (.aload_n 0, 1) := by decide +kernel
theorem zd_R_need_6 : decode zb_R_need 6 = .ok (.iload_n 1, 1) := by decide +kernel
theorem zd_R_need_7 : decode zb_R_need 7 = .ok (.invokevirtual 107, 3) := by decide +kernel
theorem zd_R_need_10 : decode zb_R_need 10 = .ok (.ifCond .eq 30, 3) := by decide +kernel
theorem zd_R_need_13 : decode zb_R_need 13 = .ok (.aload_n 0, 1) := by decide +kernel
theorem zd_R_need_14 : decode zb_R_need 14 = .ok (.iload_n 2, 1) := by decide +kernel
theorem zd_R_need_15 : decode zb_R_need 15 = .ok (.invokevirtual 107, 3) := by decide +kernel
theorem zd_R_need_18 : decode zb_R_need 18 = .ok (.ifCond .eq 22, 3) := by decide +kernel
theorem zd_R_need_21 : decode zb_R_need 21 = .ok (.aload_n 0, 1) := by decide +kernel
theorem zd_R_need_22 : decode zb_R_need 22 = .ok (.iload_n 1, 1) := by decide +kernel
theorem zd_R_need_23 : decode zb_R_need 23 = .ok (.iload_n 2, 1) := by decide +kernel
theorem zd_R_need_24 : decode zb_R_need 24 = .ok (.invokevirtual 99, 3) := by decide +kernel
theorem zd_R_need_27 : decode zb_R_need 27 = .ok (.ifCond .ne 13, 3) := by decide +kernel
theorem zd_R_need_30 : decode zb_R_need 30 = .ok (.aload_n 0, 1) := by decide +kernel
theorem zd_R_need_31 : decode zb_R_need 31 = .ok (.getfield 41, 3) := by decide +kernel
theorem zd_R_need_34 : decode zb_R_need 34 = .ok (.iload_n 1, 1) := by decide +kernel
theorem zd_R_need_35 : decode zb_R_need 35 = .ok (.iaload, 1) := by decide +kernel
theorem zd_R_need_36 : decode zb_R_need 36 = .ok (.iconst 3, 1) := by decide +kernel
theorem zd_R_need_37 : decode zb_R_need 37 = .ok (.if_icmp .ne 5, 3) := by decide +kernel
theorem zd_R_need_40 : decode zb_R_need 40 = .ok (.iconst (-1), 1) := by decide +kernel
theorem zd_R_need_41 : decode zb_R_need 41 = .ok (.ireturn, 1) := by decide +kernel
theorem zd_R_need_42 : decode zb_R_need 42 = .ok (.aload_n 0, 1) := by decide +kernel
theorem zd_R_need_43 : decode zb_R_need 43 = .ok (.iload_n 1, 1) := by decide +kernel
theorem zd_R_need_44 : decode zb_R_need 44 = .ok (.invokevirtual 110, 3) := by decide +kernel
theorem zd_R_need_47 : decode zb_R_need 47 = .ok (.istore_n 3, 1) := by decide +kernel
theorem zd_R_need_48 : decode zb_R_need 48 = .ok (.iload_n 3, 1) := by decide +kernel
theorem zd_R_need_49 : decode zb_R_need 49 = .ok (.iload_n 2, 1) := by decide +kernel
theorem zd_R_need_50 : decode zb_R_need 50 = .ok (.ishr, 1) := by decide +kernel
theorem zd_R_need_51 : decode zb_R_need 51 = .ok (.iconst 1, 1) := by decide +kernel
theorem zd_R_need_52 : decode zb_R_need 52 = .ok (.iand, 1) := by decide +kernel
theorem zd_R_need_53 : decode zb_R_need 53 = .ok (.iconst 1, 1) := by decide +kernel
theorem zd_R_need_54 : decode zb_R_need 54 = .ok (.if_icmp .ne 6, 3) := by decide +kernel
theorem zd_R_need_57 : decode zb_R_need 57 = .ok (.bipush (-2), 2) := by decide +kernel
theorem zd_R_need_59 : decode zb_R_need 59 = .ok (.ireturn, 1) := by decide +kernel
theorem zd_R_need_60 : decode zb_R_need 60 = .ok (.aload_n 0, 1) := by decide +kernel
theorem zd_R_need_61 : decode zb_R_need 61 = .ok (.getfield 44, 3) := by decide +kernel
theorem zd_R_need_64 : decode zb_R_need 64 = .ok (.iconst 3, 1) := by decide +kernel
theorem zd_R_need_65 : decode zb_R_need 65 = .ok (.iload_n 1, 1) := by decide +kernel
theorem zd_R_need_66 : decode zb_R_need 66 = .ok (.imul, 1) := by decide +kernel
theorem zd_R_need_67 : decode zb_R_need 67 = .ok (.aload_n 0, 1) := by decide +kernel
theorem zd_R_need_68 : decode zb_R_need 68 = .ok (.getfield 41, 3) := by decide +kernel
theorem zd_R_need_71 : decode zb_R_need 71 = .ok (.iload_n 1, 1) := by decide +kernel
theorem zd_R_need_72 : decode zb_R_need 72 = .ok (.iaload, 1) := by decide +kernel
theorem zd_R_need_73 : decode zb_R_need 73 = .ok (.iadd, 1) := by decide +kernel
theorem zd_R_need_74 : decode zb_R_need 74 = .ok (.iload_n 2, 1) := by decide +kernel
theorem zd_R_need_75 : decode zb_R_need 75 = .ok (.iastore, 1) := by decide +kernel
theorem zd_R_need_76 : decode zb_R_need 76 = .ok (.aload_n 0, 1) := by decide +kernel
theorem zd_R_need_77 : decode zb_R_need 77 = .ok (.getfield 41, 3) := by decide +kernel
theorem zd_R_need_80 : decode zb_R_need 80 = .ok (.iload_n 1, 1) := by decide +kernel
theorem zd_R_need_81 : decode zb_R_need 81 = .ok (.dup2, 1) := by decide +kernel
theorem zd_R_need_82 : decode zb_R_need 82 = .ok (.iaload, 1) := by decide +kernel
theorem zd_R_need_83 : decode zb_R_need 83 = .ok (.iconst 1, 1) := by decide +kernel
theorem zd_R_need_84 : decode zb_R_need 84 = .ok (.iadd, 1) := by decide +kernel
theorem zd_R_need_85 : decode zb_R_need 85 = .ok (.iastore, 1) := by decide +kernel
theorem zd_R_need_86 : decode zb_R_need 86 = .ok (.iconst 0, 1) := by decide +kernel
theorem zd_R_need_87 : decode zb_R_need 87 = .ok (.istore 4, 2) := by decide +kernel
theorem zd_R_need_89 : decode zb_R_need 89 = .ok (.iload 4, 2) := by decide +kernel
theorem zd_R_need_91 : decode zb_R_need 91 = .ok (.aload_n 0, 1) := by decide +kernel
theorem zd_R_need_92 : decode zb_R_need 92 = .ok (.getfield 79, 3) := by decide +kernel
theorem zd_R_need_95 : decode zb_R_need 95 = .ok (.if_icmp .ge 25, 3) := by decide +kernel
theorem zd_R_need_98 : decode zb_R_need 98 = .ok (.iload_n 3, 1) := by decide +kernel
theorem zd_R_need_99 : decode zb_R_need 99 = .ok (.iload 4, 2) := by decide +kernel
theorem zd_R_need_101 : decode zb_R_need 101 = .ok (.ishr, 1) := by decide +kernel
theorem zd_R_need_102 : decode zb_R_need 102 = .ok (.iconst 1, 1) := by decide +kernel
theorem zd_R_need_103 : decode zb_R_need 103 = .ok (.iand, 1) := by decide +kernel
theorem zd_R_need_104 : decode zb_R_need 104 = .ok (.iconst 1, 1) := by decide +kernel
theorem zd_R_need_105 : decode zb_R_need 105 = .ok (.if_icmp .ne 9, 3) := by decide +kernel
theorem zd_R_need_108 : decode zb_R_need 108 = .ok (.aload_n 0, 1) := by decide +kernel
theorem zd_R_need_109 : decode zb_R_need 109 = .ok (.iload 4, 2) := by decide +kernel
theorem zd_R_need_111 : decode zb_R_need 111 = .ok (.invokevirtual 114, 3) := by decide +kernel
theorem zd_R_need_114 : decode zb_R_need 114 = .ok (.iinc 4 1, 3) := by decide +kernel
theorem zd_R_need_117 : decode zb_R_need 117 = .ok (.goto (-28), 3) := by decide +kernel
theorem zd_R_need_120 : decode zb_R_need 120 = .ok (.iconst 1, 1) := by decide +kernel
theorem zd_R_need_121 : decode zb_R_need 121 = .ok (.ireturn, 1) := by decide +kernel
theorem zd_R_isAspect_0 : decode zb_R_isAspect 0 = .ok (.iload_n 1, 1) := by decide +kernel
theorem zd_R_isAspect_1 : decode zb_R_isAspect 1 = .ok (.ifCond .lt 15, 3) := by decide +kernel
theorem zd_R_isAspect_4 : decode zb_R_isAspect 4 = .ok (.iload_n 1, 1) := by decide +kernel
theorem zd_R_isAspect_5 : decode zb_R_isAspect 5 = .ok (.aload_n 0, 1) := by decide +kernel
theorem zd_R_isAspect_6 : decode zb_R_isAspect 6 = .ok (.getfield 79, 3) := by decide +kernel
theorem zd_R_isAspect_9 : decode zb_R_isAspect 9 = .ok (.if_icmp .ge 7, 3) := by decide +kernel
theorem zd_R_isAspect_12 : decode zb_R_isAspect 12 = .ok (.iconst 1, 1) := by decide +kernel
theorem zd_R_isAspect_13 : decode zb_R_isAspect 13 = .ok (.goto 4, 3) := by decide +kernel
theorem zd_R_isAspect_16 : decode zb_R_isAspect 16 = .ok (.iconst 0, 1) := by decide +kernel
theorem zd_R_isAspect_17 : decode zb_R_isAspect 17 = .ok (.ireturn, 1) := by decide +kernel
theorem zd_R_hasNeed_0 : decode zb_R_hasNeed 0 = .ok (.iconst 0, 1) := by decide +kernel
theorem zd_R_hasNeed_1 : decode zb_R_hasNeed 1 = .ok (.istore_n 3, 1) := by decide +kernel
theorem zd_R_hasNeed_2 : decode zb_R_hasNeed 2 = .ok (.iconst 0, 1) := by decide +kernel
theorem zd_R_hasNeed_3 : decode zb_R_hasNeed 3 = .ok (.istore 4, 2) := by decide +kernel
theorem zd_R_hasNeed_5 : decode zb_R_hasNeed 5 = .ok (.iload 4, 2) := by decide +kernel
theorem zd_R_hasNeed_7 : decode zb_R_hasNeed 7 = .ok (.aload_n 0, 1) := by decide +kernel
theorem zd_R_hasNeed_8 : decode zb_R_hasNeed 8 = .ok (.getfield 41, 3) := by decide +kernel
theorem zd_R_hasNeed_11 : decode zb_R_hasNeed 11 = .ok (.iload_n 1, 1) := by decide +kernel
theorem zd_R_hasNeed_12 : decode zb_R_hasNeed 12 = .ok (.iaload, 1) := by decide +kernel
theorem zd_R_hasNeed_13 : decode zb_R_hasNeed 13 = .ok (.if_icmp .ge 34, 3) := by decide +kernel
theorem zd_R_hasNeed_16 : decode zb_R_hasNeed 16 = .ok (.iload_n 3, 1) := by decide +kernel
theorem zd_R_hasNeed_17 : decode zb_R_hasNeed 17 = .ok (.ifCond .ne 18, 3) := by decide +kernel
theorem zd_R_hasNeed_20 : decode zb_R_hasNeed 20 = .ok (.aload_n 0, 1) := by decide +kernel
theorem zd_R_hasNeed_21 : decode zb_R_hasNeed 21 = .ok (.getfield 44, 3) := by decide +kernel
theorem zd_R_hasNeed_24 : decode zb_R_hasNeed 24 = .ok (.iconst 3, 1) := by decide +kernel
theorem zd_R_hasNeed_25 : decode zb_R_hasNeed 25 = .ok (.iload_n 1, 1) := by decide +kernel
theorem zd_R_hasNeed_26 : decode zb_R_hasNeed 26 = .ok (.imul, 1) := by decide +kernel
theorem zd_R_hasNeed_27 : decode zb_R_hasNeed 27 = .ok (.iload 4, 2) := by decide +kernel
theorem zd_R_hasNeed_29 : decode zb_R_hasNeed 29 = .ok (.iadd, 1) := by decide +kernel
theorem zd_R_hasNeed_30 : decode zb_R_hasNeed 30 = .ok (.iaload, 1) := by decide +kernel
theorem zd_R_hasNeed_31 : decode zb_R_hasNeed 31 = .ok (.iload_n 2, 1) := by decide +kernel
theorem zd_R_hasNeed_32 : decode zb_R_hasNeed 32 = .ok (.if_icmp .ne 7, 3) := by decide +kernel
theorem zd_R_hasNeed_35 : decode zb_R_hasNeed 35 = .ok (.iconst 1, 1) := by decide +kernel
theorem zd_R_hasNeed_36 : decode zb_R_hasNeed 36 = .ok (.goto 4, 3) := by decide +kernel
theorem zd_R_hasNeed_39 : decode zb_R_hasNeed 39 = .ok (.iconst 0, 1) := by decide +kernel
theorem zd_R_hasNeed_40 : decode zb_R_hasNeed 40 = .ok (.istore_n 3, 1) := by decide +kernel
theorem zd_R_hasNeed_41 : decode zb_R_hasNeed 41 = .ok (.iinc 4 1, 3) := by decide +kernel
theorem zd_R_hasNeed_44 : decode zb_R_hasNeed 44 = .ok (.goto (-39), 3) := by decide +kernel
theorem zd_R_hasNeed_47 : decode zb_R_hasNeed 47 = .ok (.iload_n 3, 1) := by decide +kernel
theorem zd_R_hasNeed_48 : decode zb_R_hasNeed 48 = .ok (.ireturn, 1) := by decide +kernel
theorem zd_R_neederBits_0 : decode zb_R_neederBits 0 = .ok (.iconst 1, 1) := by decide +kernel
theorem zd_R_neederBits_1 : decode zb_R_neederBits 1 = .ok (.iload_n 1, 1) := by decide +kernel
theorem zd_R_neederBits_2 : decode zb_R_neederBits 2 = .ok (.ishl, 1) := by decide +kernel
theorem zd_R_neederBits_3 : decode zb_R_neederBits 3 = .ok (.istore_n 2, 1) := by decide +kernel
theorem zd_R_neederBits_4 : decode zb_R_neederBits 4 = .ok (.iconst 0, 1) := by decide +kernel
theorem zd_R_neederBits_5 : decode zb_R_neederBits 5 = .ok (.istore_n 3, 1) := by decide +kernel
theorem zd_R_neederBits_6 : decode zb_R_neederBits 6 = .ok (.iload_n 3, 1) := by decide +kernel
theorem zd_R_neederBits_7 : decode zb_R_neederBits 7 = .ok (.bipush 8, 2) := by decide +kernel
theorem zd_R_neederBits_9 : decode zb_R_neederBits 9 = .ok (.if_icmp .ge 77, 3) := by decide +kernel
theorem zd_R_neederBits_12 : decode zb_R_neederBits 12 = .ok (.iconst 0, 1) := by decide +kernel
theorem zd_R_neederBits_13 : decode zb_R_neederBits 13 = .ok (.istore 4, 2) := by decide +kernel
theorem zd_R_neederBits_15 : decode zb_R_neederBits 15 = .ok (.iload 4, 2) := by decide +kernel
theorem zd_R_neederBits_17 : decode zb_R_neederBits 17 = .ok (.aload_n 0, 1) := by decide +kernel
theorem zd_R_neederBits_18 : decode zb_R_neederBits 18 = .ok (.getfield 79, 3) := by decide +kernel
theorem zd_R_neederBits_21 : decode zb_R_neederBits 21 = .ok (.if_icmp .ge 59, 3) := by decide +kernel
theorem zd_R_neederBits_24 : decode zb_R_neederBits 24 = .ok (.iconst 0, 1) := by decide +kernel
theorem zd_R_neederBits_25 : decode zb_R_neederBits 25 = .ok (.istore 5, 2) := by decide +kernel
theorem zd_R_neederBits_27 : decode zb_R_neederBits 27 = .ok (.iload 5, 2) := by decide +kernel
theorem zd_R_neederBits_29 : decode zb_R_neederBits 29 = .ok (.aload_n 0, 1) := by decide +kernel
theorem zd_R_neederBits_30 : decode zb_R_neederBits 30 = .ok (.getfield 79, 3) := by decide +kernel
theorem zd_R_neederBits_33 : decode zb_R_neederBits 33 = .ok (.if_icmp .ge 41, 3) := by decide +kernel
theorem zd_R_neederBits_36 : decode zb_R_neederBits 36 = .ok (.iload_n 2, 1) := by decide +kernel
theorem zd_R_neederBits_37 : decode zb_R_neederBits 37 = .ok (.aload_n 0, 1) := by decide +kernel
theorem zd_R_neederBits_38 : decode zb_R_neederBits 38 = .ok (.iload 4, 2) := by decide +kernel
theorem zd_R_neederBits_40 : decode zb_R_neederBits 40 = .ok (.iload 5, 2) := by decide +kernel
theorem zd_R_neederBits_42 : decode zb_R_neederBits 42 = .ok (.invokevirtual 99, 3) := by decide +kernel
theorem zd_R_neederBits_45 : decode zb_R_neederBits 45 = .ok (.ifCond .eq 20, 3) := by decide +kernel
theorem zd_R_neederBits_48 : decode zb_R_neederBits 48 = .ok (.iload_n 2, 1) := by decide +kernel
theorem zd_R_neederBits_49 : decode zb_R_neederBits 49 = .ok (.iload 5, 2) := by decide +kernel
theorem zd_R_neederBits_51 : decode zb_R_neederBits 51 = .ok (.ishr, 1) := by decide +kernel
theorem zd_R_neederBits_52 : decode zb_R_neederBits 52 = .ok (.iconst 1, 1) := by decide +kernel
theorem zd_R_neederBits_53 : decode zb_R_neederBits 53 = .ok (.iand, 1) := by decide +kernel
theorem zd_R_neederBits_54 : decode zb_R_neederBits 54 = .ok (.iconst 1, 1) := by decide +kernel
theorem zd_R_neederBits_55 : decode zb_R_neederBits 55 = .ok (.if_icmp .ne 10, 3) := by decide +kernel
theorem zd_R_neederBits_58 : decode zb_R_neederBits 58 = .ok (.iconst 1, 1) := by decide +kernel
theorem zd_R_neederBits_59 : decode zb_R_neederBits 59 = .ok (.iload 4, 2) := by decide +kernel
theorem zd_R_neederBits_61 : decode zb_R_neederBits 61 = .ok (.ishl, 1) := by decide +kernel
theorem zd_R_neederBits_62 : decode zb_R_neederBits 62 = .ok (.goto 4, 3) := by decide +kernel
theorem zd_R_neederBits_65 : decode zb_R_neederBits 65 = .ok (.iconst 0, 1) := by decide +kernel
theorem zd_R_neederBits_66 : decode zb_R_neederBits 66 = .ok (.ior, 1) := by decide +kernel
theorem zd_R_neederBits_67 : decode zb_R_neederBits 67 = .ok (.istore_n 2, 1) := by decide +kernel
theorem zd_R_neederBits_68 : decode zb_R_neederBits 68 = .ok (.iinc 5 1, 3) := by decide +kernel
theorem zd_R_neederBits_71 : decode zb_R_neederBits 71 = .ok (.goto (-44), 3) := by decide +kernel
theorem zd_R_neederBits_74 : decode zb_R_neederBits 74 = .ok (.iinc 4 1, 3) := by decide +kernel
theorem zd_R_neederBits_77 : decode zb_R_neederBits 77 = .ok (.goto (-62), 3) := by decide +kernel
theorem zd_R_neederBits_80 : decode zb_R_neederBits 80 = .ok (.iinc 3 1, 3) := by decide +kernel
theorem zd_R_neederBits_83 : decode zb_R_neederBits 83 = .ok (.goto (-77), 3) := by decide +kernel
theorem zd_R_neederBits_86 : decode zb_R_neederBits 86 = .ok (.iload_n 2, 1) := by decide +kernel
theorem zd_R_neederBits_87 : decode zb_R_neederBits 87 = .ok (.ireturn, 1) := by decide +kernel
theorem zd_R_forgetAspect_0 : decode zb_R_forgetAspect 0 = .ok (.iconst 0, 1) := by decide +kernel
theorem zd_R_forgetAspect_1 : decode zb_R_forgetAspect 1 = .ok (.istore_n 2, 1) := by decide +kernel
theorem zd_R_forgetAspect_2 : decode zb_R_forgetAspect 2 = .ok (.iload_n 2, 1) := by decide +kernel
theorem zd_R_forgetAspect_3 : decode zb_R_forgetAspect 3 = .ok (.aload_n 0, 1) := by decide +kernel
theorem zd_R_forgetAspect_4 : decode zb_R_forgetAspect 4 = .ok (.getfield 76, 3) := by decide +kernel
theorem zd_R_forgetAspect_7 : decode zb_R_forgetAspect 7 = .ok (.if_icmp .ge 89, 3) := by decide +kernel
theorem zd_R_forgetAspect_10 : decode zb_R_forgetAspect 10 = .ok (.iconst 0, 1) := by decide +kernel
theorem zd_R_forgetAspect_11 : decode zb_R_forgetAspect 11 = .ok (.istore_n 3, 1) := by decide +kernel
theorem zd_R_forgetAspect_12 : decode zb_R_forgetAspect 12 = .ok (.iload_n 3, 1) := by decide +kernel
theorem zd_R_forgetAspect_13 : decode zb_R_forgetAspect 13 = .ok (.bipush 16, 2) := by decide +kernel
theorem zd_R_forgetAspect_15 : decode zb_R_forgetAspect 15 = .ok (.if_icmp .ge 21, 3) := by decide +kernel
theorem zd_R_forgetAspect_18 : decode zb_R_forgetAspect 18 = .ok (.aload_n 0, 1) := by decide +kernel
theorem zd_R_forgetAspect_19 : decode zb_R_forgetAspect 19 = .ok (.getfield 47, 3) := by decide +kernel
theorem zd_R_forgetAspect_22 : decode zb_R_forgetAspect 22 = .ok (.iload_n 2, 1) := by decide +kernel
theorem zd_R_forgetAspect_23 : decode zb_R_forgetAspect 23 = .ok (.iload_n 1, 1) := by decide +kernel
theorem zd_R_forgetAspect_24 : decode zb_R_forgetAspect 24 = .ok (.iload_n 3, 1) := by decide +kernel
theorem zd_R_forgetAspect_25 : decode zb_R_forgetAspect 25 = .ok (.invokestatic 103, 3) := by decide +kernel
theorem zd_R_forgetAspect_28 : decode zb_R_forgetAspect 28 = .ok (.iconst 0, 1) := by decide +kernel
theorem zd_R_forgetAspect_29 : decode zb_R_forgetAspect 29 = .ok (.iastore, 1) := by decide +kernel
theorem zd_R_forgetAspect_30 : decode zb_R_forgetAspect 30 = .ok (.iinc 3 1, 3) := by decide +kernel
theorem zd_R_forgetAspect_33 : decode zb_R_forgetAspect 33 = .ok (.goto (-21), 3) := by decide +kernel
theorem zd_R_forgetAspect_36 : decode zb_R_forgetAspect 36 = .ok (.iconst 0, 1) := by decide +kernel
theorem zd_R_forgetAspect_37 : decode zb_R_forgetAspect 37 = .ok (.istore_n 3, 1) := by decide +kernel
theorem zd_R_forgetAspect_38 : decode zb_R_forgetAspect 38 = .ok (.iload_n 3, 1) := by decide +kernel
theorem zd_R_forgetAspect_39 : decode zb_R_forgetAspect 39 = .ok (.bipush 10, 2) := by decide +kernel
theorem zd_R_forgetAspect_41 : decode zb_R_forgetAspect 41 = .ok (.if_icmp .ge 49, 3) := by decide +kernel
theorem zd_R_forgetAspect_44 : decode zb_R_forgetAspect 44 = .ok (.aload_n 0, 1) := by decide +kernel
theorem zd_R_forgetAspect_45 : decode zb_R_forgetAspect 45 = .ok (.getfield 56, 3) := by decide +kernel
theorem zd_R_forgetAspect_48 : decode zb_R_forgetAspect 48 = .ok (.bipush 10, 2) := by decide +kernel
theorem zd_R_forgetAspect_50 : decode zb_R_forgetAspect 50 = .ok (.iload_n 2, 1) := by decide +kernel
theorem zd_R_forgetAspect_51 : decode zb_R_forgetAspect 51 = .ok (.imul, 1) := by decide +kernel
theorem zd_R_forgetAspect_52 : decode zb_R_forgetAspect 52 = .ok (.iload_n 3, 1) := by decide +kernel
theorem zd_R_forgetAspect_53 : decode zb_R_forgetAspect 53 = .ok (.iadd, 1) := by decide +kernel
theorem zd_R_forgetAspect_54 : decode zb_R_forgetAspect 54 = .ok (.iaload, 1) := by decide +kernel
theorem zd_R_forgetAspect_55 : decode zb_R_forgetAspect 55 = .ok (.istore 4, 2) := by decide +kernel
theorem zd_R_forgetAspect_57 : decode zb_R_forgetAspect 57 = .ok (.iload 4, 2) := by decide +kernel
theorem zd_R_forgetAspect_59 : decode zb_R_forgetAspect 59 = .ok (.iconst (-1), 1) := by decide +kernel
theorem zd_R_forgetAspect_60 : decode zb_R_forgetAspect 60 = .ok (.if_icmp .eq 24, 3) := by decide +kernel
theorem zd_R_forgetAspect_63 : decode zb_R_forgetAspect 63 = .ok (.iload 4, 2) := by decide +kernel
theorem zd_R_forgetAspect_65 : decode zb_R_forgetAspect 65 = .ok (.bipush 16, 2) := by decide +kernel
theorem zd_R_forgetAspect_67 : decode zb_R_forgetAspect 67 = .ok (.idiv, 1) := by decide +kernel
theorem zd_R_forgetAspect_68 : decode zb_R_forgetAspect 68 = .ok (.iload_n 1, 1) := by decide +kernel
theorem zd_R_forgetAspect_69 : decode zb_R_forgetAspect 69 = .ok (.if_icmp .ne 15, 3) := by decide +kernel
theorem zd_R_forgetAspect_72 : decode zb_R_forgetAspect 72 = .ok (.aload_n 0, 1) := by decide +kernel
theorem zd_R_forgetAspect_73 : decode zb_R_forgetAspect 73 = .ok (.getfield 56, 3) := by decide +kernel
theorem zd_R_forgetAspect_76 : decode zb_R_forgetAspect 76 = .ok (.bipush 10, 2) := by decide +kernel
theorem zd_R_forgetAspect_78 : decode zb_R_forgetAspect 78 = .ok (.iload_n 2, 1) := by decide +kernel
theorem zd_R_forgetAspect_79 : decode zb_R_forgetAspect 79 = .ok (.imul, 1) := by decide +kernel
theorem zd_R_forgetAspect_80 : decode zb_R_forgetAspect 80 = .ok (.iload_n 3, 1) := by decide +kernel
theorem zd_R_forgetAspect_81 : decode zb_R_forgetAspect 81 = .ok (.iadd, 1) := by decide +kernel
theorem zd_R_forgetAspect_82 : decode zb_R_forgetAspect 82 = .ok (.iconst (-1), 1) := by decide +kernel
theorem zd_R_forgetAspect_83 : decode zb_R_forgetAspect 83 = .ok (.iastore, 1) := by decide +kernel
theorem zd_R_forgetAspect_84 : decode zb_R_forgetAspect 84 = .ok (.iinc 3 1, 3) := by decide +kernel
theorem zd_R_forgetAspect_87 : decode zb_R_forgetAspect 87 = .ok (.goto (-49), 3) := by decide +kernel
theorem zd_R_forgetAspect_90 : decode zb_R_forgetAspect 90 = .ok (.iinc 2 1, 3) := by decide +kernel
theorem zd_R_forgetAspect_93 : decode zb_R_forgetAspect 93 = .ok (.goto (-91), 3) := by decide +kernel
theorem zd_R_forgetAspect_96 : decode zb_R_forgetAspect 96 = .ok (.return_, 1) := by decide +kernel
theorem zd_R_placeOf_0 : decode zb_R_placeOf 0 = .ok (.iload_n 0, 1) := by decide +kernel
theorem zd_R_placeOf_1 : decode zb_R_placeOf 1 = .ok (.bipush 8, 2) := by decide +kernel
theorem zd_R_placeOf_3 : decode zb_R_placeOf 3 = .ok (.imul, 1) := by decide +kernel
theorem zd_R_placeOf_4 : decode zb_R_placeOf 4 = .ok (.iload_n 1, 1) := by decide +kernel
theorem zd_R_placeOf_5 : decode zb_R_placeOf 5 = .ok (.iadd, 1) := by decide +kernel
theorem zd_R_placeOf_6 : decode zb_R_placeOf 6 = .ok (.bipush 16, 2) := by decide +kernel
theorem zd_R_placeOf_8 : decode zb_R_placeOf 8 = .ok (.imul, 1) := by decide +kernel
theorem zd_R_placeOf_9 : decode zb_R_placeOf 9 = .ok (.iload_n 2, 1) := by decide +kernel
theorem zd_R_placeOf_10 : decode zb_R_placeOf 10 = .ok (.iadd, 1) := by decide +kernel
theorem zd_R_placeOf_11 : decode zb_R_placeOf 11 = .ok (.ireturn, 1) := by decide +kernel
theorem zd_R_apply_0 : decode zb_R_apply 0 = .ok (.aload_n 0, 1) := by decide +kernel
theorem zd_R_apply_1 : decode zb_R_apply 1 = .ok (.iconst 0, 1) := by decide +kernel
theorem zd_R_apply_2 : decode zb_R_apply 2 = .ok (.putfield 72, 3) := by decide +kernel
theorem zd_R_apply_5 : decode zb_R_apply 5 = .ok (.aload_n 0, 1) := by decide +kernel
theorem zd_R_apply_6 : decode zb_R_apply 6 = .ok (.iload_n 1, 1) := by decide +kernel
theorem zd_R_apply_7 : decode zb_R_apply 7 = .ok (.invokevirtual 82, 3) := by decide +kernel
theorem zd_R_apply_10 : decode zb_R_apply 10 = .ok (.ifCond .eq 18, 3) := by decide +kernel
theorem zd_R_apply_13 : decode zb_R_apply 13 = .ok (.aload_n 0, 1) := by decide +kernel
theorem zd_R_apply_14 : decode zb_R_apply 14 = .ok (.iload_n 2, 1) := by decide +kernel
theorem zd_R_apply_15 : decode zb_R_apply 15 = .ok (.invokevirtual 107, 3) := by decide +kernel
theorem zd_R_apply_18 : decode zb_R_apply 18 = .ok (.ifCond .eq 10, 3) := by decide +kernel
theorem zd_R_apply_21 : decode zb_R_apply 21 = .ok (.iload_n 3, 1) := by decide +kernel
theorem zd_R_apply_22 : decode zb_R_apply 22 = .ok (.invokestatic 153, 3) := by decide +kernel
theorem zd_R_apply_25 : decode zb_R_apply 25 = .ok (.ifCond .ne 5, 3) := by decide +kernel
theorem zd_R_apply_28 : decode zb_R_apply 28 = .ok (.iconst (-1), 1) := by decide +kernel
theorem zd_R_apply_29 : decode zb_R_apply 29 = .ok (.ireturn, 1) := by decide +kernel
theorem zd_R_apply_30 : decode zb_R_apply 30 = .ok (.aload_n 0, 1) := by decide +kernel
theorem zd_R_apply_31 : decode zb_R_apply 31 = .ok (.getfield 7, 3) := by decide +kernel
theorem zd_R_apply_34 : decode zb_R_apply 34 = .ok (.iload_n 1, 1) := by decide +kernel
theorem zd_R_apply_35 : decode zb_R_apply 35 = .ok (.iaload, 1) := by decide +kernel
theorem zd_R_apply_36 : decode zb_R_apply 36 = .ok (.iload_n 2, 1) := by decide +kernel
theorem zd_R_apply_37 : decode zb_R_apply 37 = .ok (.iload_n 3, 1) := by decide +kernel
theorem zd_R_apply_38 : decode zb_R_apply 38 = .ok (.invokestatic 103, 3) := by decide +kernel
theorem zd_R_apply_41 : decode zb_R_apply 41 = .ok (.istore 4, 2) := by decide +kernel
theorem zd_R_apply_43 : decode zb_R_apply 43 = .ok (.aload_n 0, 1) := by decide +kernel
theorem zd_R_apply_44 : decode zb_R_apply 44 = .ok (.iload_n 3, 1) := by decide +kernel
theorem zd_R_apply_45 : decode zb_R_apply 45 = .ok (.putfield 120, 3) := by decide +kernel
theorem zd_R_apply_48 : decode zb_R_apply 48 = .ok (.aload_n 0, 1) := by decide +kernel
theorem zd_R_apply_49 : decode zb_R_apply 49 = .ok (.iconst 0, 1) := by decide +kernel
theorem zd_R_apply_50 : decode zb_R_apply 50 = .ok (.putfield 145, 3) := by decide +kernel
theorem zd_R_apply_53 : decode zb_R_apply 53 = .ok (.aload_n 0, 1) := by decide +kernel
theorem zd_R_apply_54 : decode zb_R_apply 54 = .ok (.iconst 0, 1) := by decide +kernel
theorem zd_R_apply_55 : decode zb_R_apply 55 = .ok (.putfield 117, 3) := by decide +kernel
theorem zd_R_apply_58 : decode zb_R_apply 58 = .ok (.aload_n 0, 1) := by decide +kernel
theorem zd_R_apply_59 : decode zb_R_apply 59 = .ok (.getfield 47, 3) := by decide +kernel
theorem zd_R_apply_62 : decode zb_R_apply 62 = .ok (.iload 4, 2) := by decide +kernel
theorem zd_R_apply_64 : decode zb_R_apply 64 = .ok (.iaload, 1) := by decide +kernel
theorem zd_R_apply_65 : decode zb_R_apply 65 = .ok (.ifCond .ne 14, 3) := by decide +kernel
theorem zd_R_apply_68 : decode zb_R_apply 68 = .ok (.aload_n 0, 1) := by decide +kernel
theorem zd_R_apply_69 : decode zb_R_apply 69 = .ok (.aload_n 0, 1) := by decide +kernel
theorem zd_R_apply_70 : decode zb_R_apply 70 = .ok (.getfield 7, 3) := by decide +kernel
theorem zd_R_apply_73 : decode zb_R_apply 73 = .ok (.iload_n 1, 1) := by decide +kernel
theorem zd_R_apply_74 : decode zb_R_apply 74 = .ok (.iaload, 1) := by decide +kernel
theorem zd_R_apply_75 : decode zb_R_apply 75 = .ok (.iload_n 2, 1) := by decide +kernel
end
section
theorem zd_R_apply_76 : decode zb_R_apply 76 = .ok (.invokevirtual 123, 3) := by decide +kernel
theorem zd_R_apply_79 : decode zb_R_apply 79 = .ok (.aload_n 0, 1) := by decide +kernel
theorem zd_R_apply_80 : decode zb_R_apply 80 = .ok (.getfield 117, 3) := by decide +kernel
theorem zd_R_apply_83 : decode zb_R_apply 83 = .ok (.ifCond .le 10, 3) := by decide +kernel
theorem zd_R_apply_86 : decode zb_R_apply 86 = .ok (.aload_n 0, 1) := by decide +kernel
theorem zd_R_apply_87 : decode zb_R_apply 87 = .ok (.invokevirtual 156, 3) := by decide +kernel
theorem zd_R_apply_90 : decode zb_R_apply 90 = .ok (.goto (-11), 3) := by decide +kernel
theorem zd_R_apply_93 : decode zb_R_apply 93 = .ok (.aload_n 0, 1) := by decide +kernel
theorem zd_R_apply_94 : decode zb_R_apply 94 = .ok (.getfield 145, 3) := by decide +kernel
theorem zd_R_apply_97 : decode zb_R_apply 97 = .ok (.ifCond .eq 8, 3) := by decide +kernel
theorem zd_R_apply_100 : decode zb_R_apply 100 = .ok (.bipush (-2), 2) := by decide +kernel
theorem zd_R_apply_102 : decode zb_R_apply 102 = .ok (.goto 19, 3) := by decide +kernel
theorem zd_R_apply_105 : decode zb_R_apply 105 = .ok (.aload_n 0, 1) := by decide +kernel
theorem zd_R_apply_106 : decode zb_R_apply 106 = .ok (.getfield 47, 3) := by decide +kernel
theorem zd_R_apply_109 : decode zb_R_apply 109 = .ok (.iload 4, 2) := by decide +kernel
theorem zd_R_apply_111 : decode zb_R_apply 111 = .ok (.iaload, 1) := by decide +kernel
theorem zd_R_apply_112 : decode zb_R_apply 112 = .ok (.iconst 2, 1) := by decide +kernel
theorem zd_R_apply_113 : decode zb_R_apply 113 = .ok (.if_icmp .ne 7, 3) := by decide +kernel
theorem zd_R_apply_116 : decode zb_R_apply 116 = .ok (.iconst 1, 1) := by decide +kernel
theorem zd_R_apply_117 : decode zb_R_apply 117 = .ok (.goto 4, 3) := by decide +kernel
theorem zd_R_apply_120 : decode zb_R_apply 120 = .ok (.iconst 0, 1) := by decide +kernel
theorem zd_R_apply_121 : decode zb_R_apply 121 = .ok (.ireturn, 1) := by decide +kernel
theorem zd_R_isSetting_0 : decode zb_R_isSetting 0 = .ok (.iload_n 0, 1) := by decide +kernel
theorem zd_R_isSetting_1 : decode zb_R_isSetting 1 = .ok (.ifCond .lt 13, 3) := by decide +kernel
theorem zd_R_isSetting_4 : decode zb_R_isSetting 4 = .ok (.iload_n 0, 1) := by decide +kernel
theorem zd_R_isSetting_5 : decode zb_R_isSetting 5 = .ok (.bipush 16, 2) := by decide +kernel
theorem zd_R_isSetting_7 : decode zb_R_isSetting 7 = .ok (.if_icmp .ge 7, 3) := by decide +kernel
theorem zd_R_isSetting_10 : decode zb_R_isSetting 10 = .ok (.iconst 1, 1) := by decide +kernel
theorem zd_R_isSetting_11 : decode zb_R_isSetting 11 = .ok (.goto 4, 3) := by decide +kernel
theorem zd_R_isSetting_14 : decode zb_R_isSetting 14 = .ok (.iconst 0, 1) := by decide +kernel
theorem zd_R_isSetting_15 : decode zb_R_isSetting 15 = .ok (.ireturn, 1) := by decide +kernel
theorem zd_R_push_0 : decode zb_R_push 0 = .ok (.aload_n 0, 1) := by decide +kernel
theorem zd_R_push_1 : decode zb_R_push 1 = .ok (.getfield 62, 3) := by decide +kernel
theorem zd_R_push_4 : decode zb_R_push 4 = .ok (.aload_n 0, 1) := by decide +kernel
theorem zd_R_push_5 : decode zb_R_push 5 = .ok (.getfield 117, 3) := by decide +kernel
theorem zd_R_push_8 : decode zb_R_push 8 = .ok (.iload_n 1, 1) := by decide +kernel
theorem zd_R_push_9 : decode zb_R_push 9 = .ok (.iastore, 1) := by decide +kernel
theorem zd_R_push_10 : decode zb_R_push 10 = .ok (.aload_n 0, 1) := by decide +kernel
theorem zd_R_push_11 : decode zb_R_push 11 = .ok (.getfield 65, 3) := by decide +kernel
theorem zd_R_push_14 : decode zb_R_push 14 = .ok (.aload_n 0, 1) := by decide +kernel
theorem zd_R_push_15 : decode zb_R_push 15 = .ok (.getfield 117, 3) := by decide +kernel
theorem zd_R_push_18 : decode zb_R_push 18 = .ok (.iload_n 2, 1) := by decide +kernel
theorem zd_R_push_19 : decode zb_R_push 19 = .ok (.iastore, 1) := by decide +kernel
theorem zd_R_push_20 : decode zb_R_push 20 = .ok (.aload_n 0, 1) := by decide +kernel
theorem zd_R_push_21 : decode zb_R_push 21 = .ok (.dup, 1) := by decide +kernel
theorem zd_R_push_22 : decode zb_R_push 22 = .ok (.getfield 117, 3) := by decide +kernel
theorem zd_R_push_25 : decode zb_R_push 25 = .ok (.iconst 1, 1) := by decide +kernel
theorem zd_R_push_26 : decode zb_R_push 26 = .ok (.iadd, 1) := by decide +kernel
theorem zd_R_push_27 : decode zb_R_push 27 = .ok (.putfield 117, 3) := by decide +kernel
theorem zd_R_push_30 : decode zb_R_push 30 = .ok (.return_, 1) := by decide +kernel
theorem zd_R_goOn_0 : decode zb_R_goOn 0 = .ok (.aload_n 0, 1) := by decide +kernel
theorem zd_R_goOn_1 : decode zb_R_goOn 1 = .ok (.getfield 62, 3) := by decide +kernel
theorem zd_R_goOn_4 : decode zb_R_goOn 4 = .ok (.aload_n 0, 1) := by decide +kernel
theorem zd_R_goOn_5 : decode zb_R_goOn 5 = .ok (.getfield 117, 3) := by decide +kernel
theorem zd_R_goOn_8 : decode zb_R_goOn 8 = .ok (.iconst 1, 1) := by decide +kernel
theorem zd_R_goOn_9 : decode zb_R_goOn 9 = .ok (.isub, 1) := by decide +kernel
theorem zd_R_goOn_10 : decode zb_R_goOn 10 = .ok (.iaload, 1) := by decide +kernel
theorem zd_R_goOn_11 : decode zb_R_goOn 11 = .ok (.istore_n 1, 1) := by decide +kernel
theorem zd_R_goOn_12 : decode zb_R_goOn 12 = .ok (.aload_n 0, 1) := by decide +kernel
theorem zd_R_goOn_13 : decode zb_R_goOn 13 = .ok (.getfield 65, 3) := by decide +kernel
theorem zd_R_goOn_16 : decode zb_R_goOn 16 = .ok (.aload_n 0, 1) := by decide +kernel
theorem zd_R_goOn_17 : decode zb_R_goOn 17 = .ok (.getfield 117, 3) := by decide +kernel
theorem zd_R_goOn_20 : decode zb_R_goOn 20 = .ok (.iconst 1, 1) := by decide +kernel
theorem zd_R_goOn_21 : decode zb_R_goOn 21 = .ok (.isub, 1) := by decide +kernel
theorem zd_R_goOn_22 : decode zb_R_goOn 22 = .ok (.iaload, 1) := by decide +kernel
theorem zd_R_goOn_23 : decode zb_R_goOn 23 = .ok (.istore_n 2, 1) := by decide +kernel
theorem zd_R_goOn_24 : decode zb_R_goOn 24 = .ok (.aload_n 0, 1) := by decide +kernel
theorem zd_R_goOn_25 : decode zb_R_goOn 25 = .ok (.iload_n 1, 1) := by decide +kernel
theorem zd_R_goOn_26 : decode zb_R_goOn 26 = .ok (.iload_n 2, 1) := by decide +kernel
theorem zd_R_goOn_27 : decode zb_R_goOn 27 = .ok (.invokevirtual 133, 3) := by decide +kernel
theorem zd_R_goOn_30 : decode zb_R_goOn 30 = .ok (.ifCond .eq 4, 3) := by decide +kernel
theorem zd_R_goOn_33 : decode zb_R_goOn 33 = .ok (.return_, 1) := by decide +kernel
theorem zd_R_goOn_34 : decode zb_R_goOn 34 = .ok (.iload_n 1, 1) := by decide +kernel
theorem zd_R_goOn_35 : decode zb_R_goOn 35 = .ok (.iload_n 2, 1) := by decide +kernel
theorem zd_R_goOn_36 : decode zb_R_goOn 36 = .ok (.aload_n 0, 1) := by decide +kernel
theorem zd_R_goOn_37 : decode zb_R_goOn 37 = .ok (.getfield 120, 3) := by decide +kernel
theorem zd_R_goOn_40 : decode zb_R_goOn 40 = .ok (.invokestatic 103, 3) := by decide +kernel
theorem zd_R_goOn_43 : decode zb_R_goOn 43 = .ok (.istore_n 3, 1) := by decide +kernel
theorem zd_R_goOn_44 : decode zb_R_goOn 44 = .ok (.aload_n 0, 1) := by decide +kernel
theorem zd_R_goOn_45 : decode zb_R_goOn 45 = .ok (.iload_n 1, 1) := by decide +kernel
theorem zd_R_goOn_46 : decode zb_R_goOn 46 = .ok (.iload_n 2, 1) := by decide +kernel
theorem zd_R_goOn_47 : decode zb_R_goOn 47 = .ok (.invokevirtual 136, 3) := by decide +kernel
theorem zd_R_goOn_50 : decode zb_R_goOn 50 = .ok (.ifCond .ne 21, 3) := by decide +kernel
theorem zd_R_goOn_53 : decode zb_R_goOn 53 = .ok (.aload_n 0, 1) := by decide +kernel
theorem zd_R_goOn_54 : decode zb_R_goOn 54 = .ok (.getfield 47, 3) := by decide +kernel
theorem zd_R_goOn_57 : decode zb_R_goOn 57 = .ok (.iload_n 3, 1) := by decide +kernel
theorem zd_R_goOn_58 : decode zb_R_goOn 58 = .ok (.iconst 1, 1) := by decide +kernel
theorem zd_R_goOn_59 : decode zb_R_goOn 59 = .ok (.iastore, 1) := by decide +kernel
theorem zd_R_goOn_60 : decode zb_R_goOn 60 = .ok (.aload_n 0, 1) := by decide +kernel
theorem zd_R_goOn_61 : decode zb_R_goOn 61 = .ok (.dup, 1) := by decide +kernel
theorem zd_R_goOn_62 : decode zb_R_goOn 62 = .ok (.getfield 117, 3) := by decide +kernel
theorem zd_R_goOn_65 : decode zb_R_goOn 65 = .ok (.iconst 1, 1) := by decide +kernel
theorem zd_R_goOn_66 : decode zb_R_goOn 66 = .ok (.isub, 1) := by decide +kernel
theorem zd_R_goOn_67 : decode zb_R_goOn 67 = .ok (.putfield 117, 3) := by decide +kernel
theorem zd_R_goOn_70 : decode zb_R_goOn 70 = .ok (.return_, 1) := by decide +kernel
theorem zd_R_goOn_71 : decode zb_R_goOn 71 = .ok (.aload_n 0, 1) := by decide +kernel
theorem zd_R_goOn_72 : decode zb_R_goOn 72 = .ok (.iload_n 1, 1) := by decide +kernel
theorem zd_R_goOn_73 : decode zb_R_goOn 73 = .ok (.iload_n 2, 1) := by decide +kernel
theorem zd_R_goOn_74 : decode zb_R_goOn 74 = .ok (.invokevirtual 139, 3) := by decide +kernel
theorem zd_R_goOn_77 : decode zb_R_goOn 77 = .ok (.ifCond .eq 4, 3) := by decide +kernel
theorem zd_R_goOn_80 : decode zb_R_goOn 80 = .ok (.return_, 1) := by decide +kernel
theorem zd_R_goOn_81 : decode zb_R_goOn 81 = .ok (.aload_n 0, 1) := by decide +kernel
theorem zd_R_goOn_82 : decode zb_R_goOn 82 = .ok (.iload_n 1, 1) := by decide +kernel
theorem zd_R_goOn_83 : decode zb_R_goOn 83 = .ok (.iload_n 2, 1) := by decide +kernel
theorem zd_R_goOn_84 : decode zb_R_goOn 84 = .ok (.invokevirtual 142, 3) := by decide +kernel
theorem zd_R_goOn_87 : decode zb_R_goOn 87 = .ok (.ifCond .ne 14, 3) := by decide +kernel
theorem zd_R_goOn_90 : decode zb_R_goOn 90 = .ok (.aload_n 0, 1) := by decide +kernel
theorem zd_R_goOn_91 : decode zb_R_goOn 91 = .ok (.iconst 1, 1) := by decide +kernel
theorem zd_R_goOn_92 : decode zb_R_goOn 92 = .ok (.putfield 145, 3) := by decide +kernel
theorem zd_R_goOn_95 : decode zb_R_goOn 95 = .ok (.aload_n 0, 1) := by decide +kernel
theorem zd_R_goOn_96 : decode zb_R_goOn 96 = .ok (.iconst 0, 1) := by decide +kernel
theorem zd_R_goOn_97 : decode zb_R_goOn 97 = .ok (.putfield 117, 3) := by decide +kernel
theorem zd_R_goOn_100 : decode zb_R_goOn 100 = .ok (.return_, 1) := by decide +kernel
theorem zd_R_goOn_101 : decode zb_R_goOn 101 = .ok (.aload_n 0, 1) := by decide +kernel
theorem zd_R_goOn_102 : decode zb_R_goOn 102 = .ok (.getfield 50, 3) := by decide +kernel
theorem zd_R_goOn_105 : decode zb_R_goOn 105 = .ok (.iload_n 3, 1) := by decide +kernel
theorem zd_R_goOn_106 : decode zb_R_goOn 106 = .ok (.aload_n 0, 1) := by decide +kernel
theorem zd_R_goOn_107 : decode zb_R_goOn 107 = .ok (.iload_n 1, 1) := by decide +kernel
theorem zd_R_goOn_108 : decode zb_R_goOn 108 = .ok (.iload_n 2, 1) := by decide +kernel
theorem zd_R_goOn_109 : decode zb_R_goOn 109 = .ok (.invokevirtual 149, 3) := by decide +kernel
theorem zd_R_goOn_112 : decode zb_R_goOn 112 = .ok (.lastore, 1) := by decide +kernel
theorem zd_R_goOn_113 : decode zb_R_goOn 113 = .ok (.aload_n 0, 1) := by decide +kernel
theorem zd_R_goOn_114 : decode zb_R_goOn 114 = .ok (.getfield 47, 3) := by decide +kernel
theorem zd_R_goOn_117 : decode zb_R_goOn 117 = .ok (.iload_n 3, 1) := by decide +kernel
theorem zd_R_goOn_118 : decode zb_R_goOn 118 = .ok (.iconst 2, 1) := by decide +kernel
theorem zd_R_goOn_119 : decode zb_R_goOn 119 = .ok (.iastore, 1) := by decide +kernel
theorem zd_R_goOn_120 : decode zb_R_goOn 120 = .ok (.aload_n 0, 1) := by decide +kernel
theorem zd_R_goOn_121 : decode zb_R_goOn 121 = .ok (.getfield 53, 3) := by decide +kernel
theorem zd_R_goOn_124 : decode zb_R_goOn 124 = .ok (.bipush 8, 2) := by decide +kernel
theorem zd_R_goOn_126 : decode zb_R_goOn 126 = .ok (.iload_n 1, 1) := by decide +kernel
theorem zd_R_goOn_127 : decode zb_R_goOn 127 = .ok (.imul, 1) := by decide +kernel
theorem zd_R_goOn_128 : decode zb_R_goOn 128 = .ok (.iload_n 2, 1) := by decide +kernel
theorem zd_R_goOn_129 : decode zb_R_goOn 129 = .ok (.iadd, 1) := by decide +kernel
theorem zd_R_goOn_130 : decode zb_R_goOn 130 = .ok (.dup2, 1) := by decide +kernel
theorem zd_R_goOn_131 : decode zb_R_goOn 131 = .ok (.iaload, 1) := by decide +kernel
theorem zd_R_goOn_132 : decode zb_R_goOn 132 = .ok (.iconst 1, 1) := by decide +kernel
theorem zd_R_goOn_133 : decode zb_R_goOn 133 = .ok (.iadd, 1) := by decide +kernel
theorem zd_R_goOn_134 : decode zb_R_goOn 134 = .ok (.iastore, 1) := by decide +kernel
theorem zd_R_goOn_135 : decode zb_R_goOn 135 = .ok (.aload_n 0, 1) := by decide +kernel
theorem zd_R_goOn_136 : decode zb_R_goOn 136 = .ok (.dup, 1) := by decide +kernel
theorem zd_R_goOn_137 : decode zb_R_goOn 137 = .ok (.getfield 117, 3) := by decide +kernel
theorem zd_R_goOn_140 : decode zb_R_goOn 140 = .ok (.iconst 1, 1) := by decide +kernel
theorem zd_R_goOn_141 : decode zb_R_goOn 141 = .ok (.isub, 1) := by decide +kernel
theorem zd_R_goOn_142 : decode zb_R_goOn 142 = .ok (.putfield 117, 3) := by decide +kernel
theorem zd_R_goOn_145 : decode zb_R_goOn 145 = .ok (.return_, 1) := by decide +kernel
theorem zd_R_waitsForNeed_0 : decode zb_R_waitsForNeed 0 = .ok (.iconst 0, 1) := by decide +kernel
theorem zd_R_waitsForNeed_1 : decode zb_R_waitsForNeed 1 = .ok (.istore_n 3, 1) := by decide +kernel
theorem zd_R_waitsForNeed_2 : decode zb_R_waitsForNeed 2 = .ok (.iload_n 3, 1) := by decide +kernel
theorem zd_R_waitsForNeed_3 : decode zb_R_waitsForNeed 3 = .ok (.aload_n 0, 1) := by decide +kernel
theorem zd_R_waitsForNeed_4 : decode zb_R_waitsForNeed 4 = .ok (.getfield 41, 3) := by decide +kernel
theorem zd_R_waitsForNeed_7 : decode zb_R_waitsForNeed 7 = .ok (.iload_n 2, 1) := by decide +kernel
theorem zd_R_waitsForNeed_8 : decode zb_R_waitsForNeed 8 = .ok (.iaload, 1) := by decide +kernel
theorem zd_R_waitsForNeed_9 : decode zb_R_waitsForNeed 9 = .ok (.if_icmp .ge 51, 3) := by decide +kernel
theorem zd_R_waitsForNeed_12 : decode zb_R_waitsForNeed 12 = .ok (.aload_n 0, 1) := by decide +kernel
theorem zd_R_waitsForNeed_13 : decode zb_R_waitsForNeed 13 = .ok (.getfield 44, 3) := by decide +kernel
theorem zd_R_waitsForNeed_16 : decode zb_R_waitsForNeed 16 = .ok (.iconst 3, 1) := by decide +kernel
theorem zd_R_waitsForNeed_17 : decode zb_R_waitsForNeed 17 = .ok (.iload_n 2, 1) := by decide +kernel
theorem zd_R_waitsForNeed_18 : decode zb_R_waitsForNeed 18 = .ok (.imul, 1) := by decide +kernel
theorem zd_R_waitsForNeed_19 : decode zb_R_waitsForNeed 19 = .ok (.iload_n 3, 1) := by decide +kernel
theorem zd_R_waitsForNeed_20 : decode zb_R_waitsForNeed 20 = .ok (.iadd, 1) := by decide +kernel
theorem zd_R_waitsForNeed_21 : decode zb_R_waitsForNeed 21 = .ok (.iaload, 1) := by decide +kernel
theorem zd_R_waitsForNeed_22 : decode zb_R_waitsForNeed 22 = .ok (.istore 4, 2) := by decide +kernel
theorem zd_R_waitsForNeed_24 : decode zb_R_waitsForNeed 24 = .ok (.aload_n 0, 1) := by decide +kernel
theorem zd_R_waitsForNeed_25 : decode zb_R_waitsForNeed 25 = .ok (.getfield 47, 3) := by decide +kernel
theorem zd_R_waitsForNeed_28 : decode zb_R_waitsForNeed 28 = .ok (.iload_n 1, 1) := by decide +kernel
theorem zd_R_waitsForNeed_29 : decode zb_R_waitsForNeed 29 = .ok (.iload 4, 2) := by decide +kernel
theorem zd_R_waitsForNeed_31 : decode zb_R_waitsForNeed 31 = .ok (.aload_n 0, 1) := by decide +kernel
theorem zd_R_waitsForNeed_32 : decode zb_R_waitsForNeed 32 = .ok (.getfield 120, 3) := by decide +kernel
theorem zd_R_waitsForNeed_35 : decode zb_R_waitsForNeed 35 = .ok (.invokestatic 103, 3) := by decide +kernel
theorem zd_R_waitsForNeed_38 : decode zb_R_waitsForNeed 38 = .ok (.iaload, 1) := by decide +kernel
theorem zd_R_waitsForNeed_39 : decode zb_R_waitsForNeed 39 = .ok (.ifCond .eq 6, 3) := by decide +kernel
theorem zd_R_waitsForNeed_42 : decode zb_R_waitsForNeed 42 = .ok (.goto 12, 3) := by decide +kernel
theorem zd_R_waitsForNeed_45 : decode zb_R_waitsForNeed 45 = .ok (.aload_n 0, 1) := by decide +kernel
theorem zd_R_waitsForNeed_46 : decode zb_R_waitsForNeed 46 = .ok (.iload_n 1, 1) := by decide +kernel
theorem zd_R_waitsForNeed_47 : decode zb_R_waitsForNeed 47 = .ok (.iload 4, 2) := by decide +kernel
theorem zd_R_waitsForNeed_49 : decode zb_R_waitsForNeed 49 = .ok (.invokevirtual 123, 3) := by decide +kernel
theorem zd_R_waitsForNeed_52 : decode zb_R_waitsForNeed 52 = .ok (.iconst 1, 1) := by decide +kernel
theorem zd_R_waitsForNeed_53 : decode zb_R_waitsForNeed 53 = .ok (.ireturn, 1) := by decide +kernel
theorem zd_R_waitsForNeed_54 : decode zb_R_waitsForNeed 54 = .ok (.iinc 3 1, 3) := by decide +kernel
theorem zd_R_waitsForNeed_57 : decode zb_R_waitsForNeed 57 = .ok (.goto (-55), 3) := by decide +kernel
theorem zd_R_waitsForNeed_60 : decode zb_R_waitsForNeed 60 = .ok (.iconst 0, 1) := by decide +kernel
theorem zd_R_waitsForNeed_61 : decode zb_R_waitsForNeed 61 = .ok (.ireturn, 1) := by decide +kernel
theorem zd_R_hasAllWanted_0 : decode zb_R_hasAllWanted 0 = .ok (.aload_n 0, 1) := by decide +kernel
theorem zd_R_hasAllWanted_1 : decode zb_R_hasAllWanted 1 = .ok (.getfield 17, 3) := by decide +kernel
theorem zd_R_hasAllWanted_4 : decode zb_R_hasAllWanted 4 = .ok (.iload_n 1, 1) := by decide +kernel
theorem zd_R_hasAllWanted_5 : decode zb_R_hasAllWanted 5 = .ok (.iaload, 1) := by decide +kernel
theorem zd_R_hasAllWanted_6 : decode zb_R_hasAllWanted 6 = .ok (.istore_n 3, 1) := by decide +kernel
theorem zd_R_hasAllWanted_7 : decode zb_R_hasAllWanted 7 = .ok (.iconst 0, 1) := by decide +kernel
theorem zd_R_hasAllWanted_8 : decode zb_R_hasAllWanted 8 = .ok (.istore 4, 2) := by decide +kernel
theorem zd_R_hasAllWanted_10 : decode zb_R_hasAllWanted 10 = .ok (.iload 4, 2) := by decide +kernel
theorem zd_R_hasAllWanted_12 : decode zb_R_hasAllWanted 12 = .ok (.aload_n 0, 1) := by decide +kernel
theorem zd_R_hasAllWanted_13 : decode zb_R_hasAllWanted 13 = .ok (.getfield 41, 3) := by decide +kernel
theorem zd_R_hasAllWanted_16 : decode zb_R_hasAllWanted 16 = .ok (.iload_n 2, 1) := by decide +kernel
theorem zd_R_hasAllWanted_17 : decode zb_R_hasAllWanted 17 = .ok (.iaload, 1) := by decide +kernel
theorem zd_R_hasAllWanted_18 : decode zb_R_hasAllWanted 18 = .ok (.if_icmp .ge 55, 3) := by decide +kernel
theorem zd_R_hasAllWanted_21 : decode zb_R_hasAllWanted 21 = .ok (.aload_n 0, 1) := by decide +kernel
theorem zd_R_hasAllWanted_22 : decode zb_R_hasAllWanted 22 = .ok (.getfield 44, 3) := by decide +kernel
theorem zd_R_hasAllWanted_25 : decode zb_R_hasAllWanted 25 = .ok (.iconst 3, 1) := by decide +kernel
theorem zd_R_hasAllWanted_26 : decode zb_R_hasAllWanted 26 = .ok (.iload_n 2, 1) := by decide +kernel
theorem zd_R_hasAllWanted_27 : decode zb_R_hasAllWanted 27 = .ok (.imul, 1) := by decide +kernel
theorem zd_R_hasAllWanted_28 : decode zb_R_hasAllWanted 28 = .ok (.iload 4, 2) := by decide +kernel
theorem zd_R_hasAllWanted_30 : decode zb_R_hasAllWanted 30 = .ok (.iadd, 1) := by decide +kernel
theorem zd_R_hasAllWanted_31 : decode zb_R_hasAllWanted 31 = .ok (.iaload, 1) := by decide +kernel
theorem zd_R_hasAllWanted_32 : decode zb_R_hasAllWanted 32 = .ok (.istore 5, 2) := by decide +kernel
theorem zd_R_hasAllWanted_34 : decode zb_R_hasAllWanted 34 = .ok (.iload_n 3, 1) := by decide +kernel
theorem zd_R_hasAllWanted_35 : decode zb_R_hasAllWanted 35 = .ok (.aload_n 0, 1) := by decide +kernel
theorem zd_R_hasAllWanted_36 : decode zb_R_hasAllWanted 36 = .ok (.getfield 47, 3) := by decide +kernel
theorem zd_R_hasAllWanted_39 : decode zb_R_hasAllWanted 39 = .ok (.iload_n 1, 1) := by decide +kernel
theorem zd_R_hasAllWanted_40 : decode zb_R_hasAllWanted 40 = .ok (.iload 5, 2) := by decide +kernel
theorem zd_R_hasAllWanted_42 : decode zb_R_hasAllWanted 42 = .ok (.aload_n 0, 1) := by decide +kernel
theorem zd_R_hasAllWanted_43 : decode zb_R_hasAllWanted 43 = .ok (.getfield 120, 3) := by decide +kernel
theorem zd_R_hasAllWanted_46 : decode zb_R_hasAllWanted 46 = .ok (.invokestatic 103, 3) := by decide +kernel
theorem zd_R_hasAllWanted_49 : decode zb_R_hasAllWanted 49 = .ok (.iaload, 1) := by decide +kernel
theorem zd_R_hasAllWanted_50 : decode zb_R_hasAllWanted 50 = .ok (.iconst 2, 1) := by decide +kernel
theorem zd_R_hasAllWanted_51 : decode zb_R_hasAllWanted 51 = .ok (.if_icmp .ne 13, 3) := by decide +kernel
theorem zd_R_hasAllWanted_54 : decode zb_R_hasAllWanted 54 = .ok (.aload_n 0, 1) := by decide +kernel
theorem zd_R_hasAllWanted_55 : decode zb_R_hasAllWanted 55 = .ok (.getfield 35, 3) := by decide +kernel
theorem zd_R_hasAllWanted_58 : decode zb_R_hasAllWanted 58 = .ok (.iload 5, 2) := by decide +kernel
theorem zd_R_hasAllWanted_60 : decode zb_R_hasAllWanted 60 = .ok (.iaload, 1) := by decide +kernel
theorem zd_R_hasAllWanted_61 : decode zb_R_hasAllWanted 61 = .ok (.goto 4, 3) := by decide +kernel
theorem zd_R_hasAllWanted_64 : decode zb_R_hasAllWanted 64 = .ok (.iconst 0, 1) := by decide +kernel
theorem zd_R_hasAllWanted_65 : decode zb_R_hasAllWanted 65 = .ok (.ior, 1) := by decide +kernel
theorem zd_R_hasAllWanted_66 : decode zb_R_hasAllWanted 66 = .ok (.istore_n 3, 1) := by decide +kernel
theorem zd_R_hasAllWanted_67 : decode zb_R_hasAllWanted 67 = .ok (.iinc 4 1, 3) := by decide +kernel
theorem zd_R_hasAllWanted_70 : decode zb_R_hasAllWanted 70 = .ok (.goto (-60), 3) := by decide +kernel
theorem zd_R_hasAllWanted_73 : decode zb_R_hasAllWanted 73 = .ok (.aload_n 0, 1) := by decide +kernel
theorem zd_R_hasAllWanted_74 : decode zb_R_hasAllWanted 74 = .ok (.getfield 32, 3) := by decide +kernel
theorem zd_R_hasAllWanted_77 : decode zb_R_hasAllWanted 77 = .ok (.iload_n 2, 1) := by decide +kernel
theorem zd_R_hasAllWanted_78 : decode zb_R_hasAllWanted 78 = .ok (.iaload, 1) := by decide +kernel
theorem zd_R_hasAllWanted_79 : decode zb_R_hasAllWanted 79 = .ok (.iload_n 3, 1) := by decide +kernel
theorem zd_R_hasAllWanted_80 : decode zb_R_hasAllWanted 80 = .ok (.iconst (-1), 1) := by decide +kernel
theorem zd_R_hasAllWanted_81 : decode zb_R_hasAllWanted 81 = .ok (.ixor, 1) := by decide +kernel
theorem zd_R_hasAllWanted_82 : decode zb_R_hasAllWanted 82 = .ok (.iand, 1) := by decide +kernel
theorem zd_R_hasAllWanted_83 : decode zb_R_hasAllWanted 83 = .ok (.ifCond .ne 7, 3) := by decide +kernel
theorem zd_R_hasAllWanted_86 : decode zb_R_hasAllWanted 86 = .ok (.iconst 1, 1) := by decide +kernel
theorem zd_R_hasAllWanted_87 : decode zb_R_hasAllWanted 87 = .ok (.goto 4, 3) := by decide +kernel
theorem zd_R_hasAllWanted_90 : decode zb_R_hasAllWanted 90 = .ok (.iconst 0, 1) := by decide +kernel
theorem zd_R_hasAllWanted_91 : decode zb_R_hasAllWanted 91 = .ok (.ireturn, 1) := by decide +kernel
theorem zd_R_waitsForTarget_0 : decode zb_R_waitsForTarget 0 = .ok (.iconst 0, 1) := by decide +kernel
theorem zd_R_waitsForTarget_1 : decode zb_R_waitsForTarget 1 = .ok (.istore_n 3, 1) := by decide +kernel
theorem zd_R_waitsForTarget_2 : decode zb_R_waitsForTarget 2 = .ok (.iload_n 3, 1) := by decide +kernel
theorem zd_R_waitsForTarget_3 : decode zb_R_waitsForTarget 3 = .ok (.iconst 3, 1) := by decide +kernel
theorem zd_R_waitsForTarget_4 : decode zb_R_waitsForTarget 4 = .ok (.if_icmp .ge 100, 3) := by decide +kernel
theorem zd_R_waitsForTarget_7 : decode zb_R_waitsForTarget 7 = .ok (.iconst 0, 1) := by decide +kernel
theorem zd_R_waitsForTarget_8 : decode zb_R_waitsForTarget 8 = .ok (.istore 4, 2) := by decide +kernel
theorem zd_R_waitsForTarget_10 : decode zb_R_waitsForTarget 10 = .ok (.iload 4, 2) := by decide +kernel
theorem zd_R_waitsForTarget_12 : decode zb_R_waitsForTarget 12 = .ok (.aload_n 0, 1) := by decide +kernel
theorem zd_R_waitsForTarget_13 : decode zb_R_waitsForTarget 13 = .ok (.getfield 20, 3) := by decide +kernel
theorem zd_R_waitsForTarget_16 : decode zb_R_waitsForTarget 16 = .ok (.iconst 3, 1) := by decide +kernel
theorem zd_R_waitsForTarget_17 : decode zb_R_waitsForTarget 17 = .ok (.iload_n 1, 1) := by decide +kernel
theorem zd_R_waitsForTarget_18 : decode zb_R_waitsForTarget 18 = .ok (.imul, 1) := by decide +kernel
theorem zd_R_waitsForTarget_19 : decode zb_R_waitsForTarget 19 = .ok (.iload_n 3, 1) := by decide +kernel
theorem zd_R_waitsForTarget_20 : decode zb_R_waitsForTarget 20 = .ok (.iadd, 1) := by decide +kernel
theorem zd_R_waitsForTarget_21 : decode zb_R_waitsForTarget 21 = .ok (.iaload, 1) := by decide +kernel
theorem zd_R_waitsForTarget_22 : decode zb_R_waitsForTarget 22 = .ok (.if_icmp .ge 76, 3) := by decide +kernel
theorem zd_R_waitsForTarget_25 : decode zb_R_waitsForTarget 25 = .ok (.aload_n 0, 1) := by decide +kernel
theorem zd_R_waitsForTarget_26 : decode zb_R_waitsForTarget 26 = .ok (.getfield 29, 3) := by decide +kernel
theorem zd_R_waitsForTarget_29 : decode zb_R_waitsForTarget 29 = .ok (.iload_n 2, 1) := by decide +kernel
theorem zd_R_waitsForTarget_30 : decode zb_R_waitsForTarget 30 = .ok (.iaload, 1) := by decide +kernel
theorem zd_R_waitsForTarget_31 : decode zb_R_waitsForTarget 31 = .ok (.iload_n 3, 1) := by decide +kernel
theorem zd_R_waitsForTarget_32 : decode zb_R_waitsForTarget 32 = .ok (.ishr, 1) := by decide +kernel
theorem zd_R_waitsForTarget_33 : decode zb_R_waitsForTarget 33 = .ok (.iconst 1, 1) := by decide +kernel
theorem zd_R_waitsForTarget_34 : decode zb_R_waitsForTarget 34 = .ok (.iand, 1) := by decide +kernel
theorem zd_R_waitsForTarget_35 : decode zb_R_waitsForTarget 35 = .ok (.iconst 1, 1) := by decide +kernel
theorem zd_R_waitsForTarget_36 : decode zb_R_waitsForTarget 36 = .ok (.if_icmp .ne 62, 3) := by decide +kernel
theorem zd_R_waitsForTarget_39 : decode zb_R_waitsForTarget 39 = .ok (.aload_n 0, 1) := by decide +kernel
theorem zd_R_waitsForTarget_40 : decode zb_R_waitsForTarget 40 = .ok (.getfield 7, 3) := by decide +kernel
theorem zd_R_waitsForTarget_43 : decode zb_R_waitsForTarget 43 = .ok (.aload_n 0, 1) := by decide +kernel
theorem zd_R_waitsForTarget_44 : decode zb_R_waitsForTarget 44 = .ok (.getfield 23, 3) := by decide +kernel
theorem zd_R_waitsForTarget_47 : decode zb_R_waitsForTarget 47 = .ok (.bipush 12, 2) := by decide +kernel
theorem zd_R_waitsForTarget_49 : decode zb_R_waitsForTarget 49 = .ok (.iload_n 1, 1) := by decide +kernel
theorem zd_R_waitsForTarget_50 : decode zb_R_waitsForTarget 50 = .ok (.imul, 1) := by decide +kernel
theorem zd_R_waitsForTarget_51 : decode zb_R_waitsForTarget 51 = .ok (.iconst 4, 1) := by decide +kernel
theorem zd_R_waitsForTarget_52 : decode zb_R_waitsForTarget 52 = .ok (.iload_n 3, 1) := by decide +kernel
theorem zd_R_waitsForTarget_53 : decode zb_R_waitsForTarget 53 = .ok (.imul, 1) := by decide +kernel
theorem zd_R_waitsForTarget_54 : decode zb_R_waitsForTarget 54 = .ok (.iadd, 1) := by decide +kernel
theorem zd_R_waitsForTarget_55 : decode zb_R_waitsForTarget 55 = .ok (.iload 4, 2) := by decide +kernel
theorem zd_R_waitsForTarget_57 : decode zb_R_waitsForTarget 57 = .ok (.iadd, 1) := by decide +kernel
theorem zd_R_waitsForTarget_58 : decode zb_R_waitsForTarget 58 = .ok (.iaload, 1) := by decide +kernel
theorem zd_R_waitsForTarget_59 : decode zb_R_waitsForTarget 59 = .ok (.iaload, 1) := by decide +kernel
theorem zd_R_waitsForTarget_60 : decode zb_R_waitsForTarget 60 = .ok (.istore 5, 2) := by decide +kernel
theorem zd_R_waitsForTarget_62 : decode zb_R_waitsForTarget 62 = .ok (.aload_n 0, 1) := by decide +kernel
theorem zd_R_waitsForTarget_63 : decode zb_R_waitsForTarget 63 = .ok (.getfield 47, 3) := by decide +kernel
theorem zd_R_waitsForTarget_66 : decode zb_R_waitsForTarget 66 = .ok (.iload 5, 2) := by decide +kernel
theorem zd_R_waitsForTarget_68 : decode zb_R_waitsForTarget 68 = .ok (.iload_n 2, 1) := by decide +kernel
theorem zd_R_waitsForTarget_69 : decode zb_R_waitsForTarget 69 = .ok (.aload_n 0, 1) := by decide +kernel
theorem zd_R_waitsForTarget_70 : decode zb_R_waitsForTarget 70 = .ok (.getfield 120, 3) := by decide +kernel
theorem zd_R_waitsForTarget_73 : decode zb_R_waitsForTarget 73 = .ok (.invokestatic 103, 3) := by decide +kernel
theorem zd_R_waitsForTarget_76 : decode zb_R_waitsForTarget 76 = .ok (.iaload, 1) := by decide +kernel
theorem zd_R_waitsForTarget_77 : decode zb_R_waitsForTarget 77 = .ok (.ifCond .eq 6, 3) := by decide +kernel
theorem zd_R_waitsForTarget_80 : decode zb_R_waitsForTarget 80 = .ok (.goto 12, 3) := by decide +kernel
theorem zd_R_waitsForTarget_83 : decode zb_R_waitsForTarget 83 = .ok (.aload_n 0, 1) := by decide +kernel
theorem zd_R_waitsForTarget_84 : decode zb_R_waitsForTarget 84 = .ok (.iload 5, 2) := by decide +kernel
theorem zd_R_waitsForTarget_86 : decode zb_R_waitsForTarget 86 = .ok (.iload_n 2, 1) := by decide +kernel
theorem zd_R_waitsForTarget_87 : decode zb_R_waitsForTarget 87 = .ok (.invokevirtual 123, 3) := by decide +kernel
theorem zd_R_waitsForTarget_90 : decode zb_R_waitsForTarget 90 = .ok (.iconst 1, 1) := by decide +kernel
theorem zd_R_waitsForTarget_91 : decode zb_R_waitsForTarget 91 = .ok (.ireturn, 1) := by decide +kernel
theorem zd_R_waitsForTarget_92 : decode zb_R_waitsForTarget 92 = .ok (.iinc 4 1, 3) := by decide +kernel
theorem zd_R_waitsForTarget_95 : decode zb_R_waitsForTarget 95 = .ok (.goto (-85), 3) := by decide +kernel
theorem zd_R_waitsForTarget_98 : decode zb_R_waitsForTarget 98 = .ok (.iinc 3 1, 3) := by decide +kernel
theorem zd_R_waitsForTarget_101 : decode zb_R_waitsForTarget 101 = .ok (.goto (-99), 3) := by decide +kernel
theorem zd_R_waitsForTarget_104 : decode zb_R_waitsForTarget 104 = .ok (.iconst 0, 1) := by decide +kernel
theorem zd_R_waitsForTarget_105 : decode zb_R_waitsForTarget 105 = .ok (.ireturn, 1) := by decide +kernel
theorem zd_R_makes_0 : decode zb_R_makes 0 = .ok (.aload_n 0, 1) := by decide +kernel
theorem zd_R_makes_1 : decode zb_R_makes 1 = .ok (.getfield 38, 3) := by decide +kernel
theorem zd_R_makes_4 : decode zb_R_makes 4 = .ok (.iload_n 2, 1) := by decide +kernel
theorem zd_R_makes_5 : decode zb_R_makes 5 = .ok (.iaload, 1) := by decide +kernel
theorem zd_R_makes_6 : decode zb_R_makes 6 = .ok (.iconst (-1), 1) := by decide +kernel
theorem zd_R_makes_7 : decode zb_R_makes 7 = .ok (.if_icmp .ne 5, 3) := by decide +kernel
theorem zd_R_makes_10 : decode zb_R_makes 10 = .ok (.iconst 1, 1) := by decide +kernel
theorem zd_R_makes_11 : decode zb_R_makes 11 = .ok (.ireturn, 1) := by decide +kernel
theorem zd_R_makes_12 : decode zb_R_makes 12 = .ok (.bipush 10, 2) := by decide +kernel
theorem zd_R_makes_14 : decode zb_R_makes 14 = .ok (.iload_n 1, 1) := by decide +kernel
theorem zd_R_makes_15 : decode zb_R_makes 15 = .ok (.imul, 1) := by decide +kernel
theorem zd_R_makes_16 : decode zb_R_makes 16 = .ok (.aload_n 0, 1) := by decide +kernel
theorem zd_R_makes_17 : decode zb_R_makes 17 = .ok (.getfield 38, 3) := by decide +kernel
theorem zd_R_makes_20 : decode zb_R_makes 20 = .ok (.iload_n 2, 1) := by decide +kernel
theorem zd_R_makes_21 : decode zb_R_makes 21 = .ok (.iaload, 1) := by decide +kernel
theorem zd_R_makes_22 : decode zb_R_makes 22 = .ok (.iadd, 1) := by decide +kernel
theorem zd_R_makes_23 : decode zb_R_makes 23 = .ok (.istore_n 3, 1) := by decide +kernel
theorem zd_R_makes_24 : decode zb_R_makes 24 = .ok (.bipush 16, 2) := by decide +kernel
theorem zd_R_makes_26 : decode zb_R_makes 26 = .ok (.iload_n 2, 1) := by decide +kernel
theorem zd_R_makes_27 : decode zb_R_makes 27 = .ok (.imul, 1) := by decide +kernel
theorem zd_R_makes_28 : decode zb_R_makes 28 = .ok (.aload_n 0, 1) := by decide +kernel
theorem zd_R_makes_29 : decode zb_R_makes 29 = .ok (.getfield 120, 3) := by decide +kernel
theorem zd_R_makes_32 : decode zb_R_makes 32 = .ok (.iadd, 1) := by decide +kernel
theorem zd_R_makes_33 : decode zb_R_makes 33 = .ok (.istore 4, 2) := by decide +kernel
theorem zd_R_makes_35 : decode zb_R_makes 35 = .ok (.aload_n 0, 1) := by decide +kernel
theorem zd_R_makes_36 : decode zb_R_makes 36 = .ok (.getfield 56, 3) := by decide +kernel
theorem zd_R_makes_39 : decode zb_R_makes 39 = .ok (.iload_n 3, 1) := by decide +kernel
theorem zd_R_makes_40 : decode zb_R_makes 40 = .ok (.iaload, 1) := by decide +kernel
theorem zd_R_makes_41 : decode zb_R_makes 41 = .ok (.iconst (-1), 1) := by decide +kernel
theorem zd_R_makes_42 : decode zb_R_makes 42 = .ok (.if_icmp .eq 70, 3) := by decide +kernel
theorem zd_R_makes_45 : decode zb_R_makes 45 = .ok (.aload_n 0, 1) := by decide +kernel
theorem zd_R_makes_46 : decode zb_R_makes 46 = .ok (.getfield 56, 3) := by decide +kernel
theorem zd_R_makes_49 : decode zb_R_makes 49 = .ok (.iload_n 3, 1) := by decide +kernel
theorem zd_R_makes_50 : decode zb_R_makes 50 = .ok (.iaload, 1) := by decide +kernel
theorem zd_R_makes_51 : decode zb_R_makes 51 = .ok (.iload 4, 2) := by decide +kernel
theorem zd_R_makes_53 : decode zb_R_makes 53 = .ok (.if_icmp .eq 59, 3) := by decide +kernel
theorem zd_R_makes_56 : decode zb_R_makes 56 = .ok (.aload_n 0, 1) := by decide +kernel
theorem zd_R_makes_57 : decode zb_R_makes 57 = .ok (.getfield 59, 3) := by decide +kernel
theorem zd_R_makes_60 : decode zb_R_makes 60 = .ok (.iconst 0, 1) := by decide +kernel
theorem zd_R_makes_61 : decode zb_R_makes 61 = .ok (.iload_n 1, 1) := by decide +kernel
theorem zd_R_makes_62 : decode zb_R_makes 62 = .ok (.iastore, 1) := by decide +kernel
theorem zd_R_makes_63 : decode zb_R_makes 63 = .ok (.aload_n 0, 1) := by decide +kernel
theorem zd_R_makes_64 : decode zb_R_makes 64 = .ok (.getfield 59, 3) := by decide +kernel
theorem zd_R_makes_67 : decode zb_R_makes 67 = .ok (.iconst 1, 1) := by decide +kernel
theorem zd_R_makes_68 : decode zb_R_makes 68 = .ok (.iload_n 2, 1) := by decide +kernel
theorem zd_R_makes_69 : decode zb_R_makes 69 = .ok (.iastore, 1) := by decide +kernel
theorem zd_R_makes_70 : decode zb_R_makes 70 = .ok (.aload_n 0, 1) := by decide +kernel
theorem zd_R_makes_71 : decode zb_R_makes 71 = .ok (.getfield 59, 3) := by decide +kernel
theorem zd_R_makes_74 : decode zb_R_makes 74 = .ok (.iconst 2, 1) := by decide +kernel
theorem zd_R_makes_75 : decode zb_R_makes 75 = .ok (.aload_n 0, 1) := by decide +kernel
theorem zd_R_makes_76 : decode zb_R_makes 76 = .ok (.getfield 120, 3) := by decide +kernel
theorem zd_R_makes_79 : decode zb_R_makes 79 = .ok (.iastore, 1) := by decide +kernel
theorem zd_R_makes_80 : decode zb_R_makes 80 = .ok (.aload_n 0, 1) := by decide +kernel
theorem zd_R_makes_81 : decode zb_R_makes 81 = .ok (.getfield 59, 3) := by decide +kernel
theorem zd_R_makes_84 : decode zb_R_makes 84 = .ok (.iconst 3, 1) := by decide +kernel
theorem zd_R_makes_85 : decode zb_R_makes 85 = .ok (.aload_n 0, 1) := by decide +kernel
theorem zd_R_makes_86 : decode zb_R_makes 86 = .ok (.getfield 56, 3) := by decide +kernel
theorem zd_R_makes_89 : decode zb_R_makes 89 = .ok (.iload_n 3, 1) := by decide +kernel
theorem zd_R_makes_90 : decode zb_R_makes 90 = .ok (.iaload, 1) := by decide +kernel
theorem zd_R_makes_91 : decode zb_R_makes 91 = .ok (.bipush 16, 2) := by decide +kernel
theorem zd_R_makes_93 : decode zb_R_makes 93 = .ok (.idiv, 1) := by decide +kernel
theorem zd_R_makes_94 : decode zb_R_makes 94 = .ok (.iastore, 1) := by decide +kernel
theorem zd_R_makes_95 : decode zb_R_makes 95 = .ok (.aload_n 0, 1) := by decide +kernel
theorem zd_R_makes_96 : decode zb_R_makes 96 = .ok (.getfield 59, 3) := by decide +kernel
theorem zd_R_makes_99 : decode zb_R_makes 99 = .ok (.iconst 4, 1) := by decide +kernel
theorem zd_R_makes_100 : decode zb_R_makes 100 = .ok (.aload_n 0, 1) := by decide +kernel
theorem zd_R_makes_101 : decode zb_R_makes 101 = .ok (.getfield 56, 3) := by decide +kernel
theorem zd_R_makes_104 : decode zb_R_makes 104 = .ok (.iload_n 3, 1) := by decide +kernel
theorem zd_R_makes_105 : decode zb_R_makes 105 = .ok (.iaload, 1) := by decide +kernel
theorem zd_R_makes_106 : decode zb_R_makes 106 = .ok (.bipush 16, 2) := by decide +kernel
theorem zd_R_makes_108 : decode zb_R_makes 108 = .ok (.irem, 1) := by decide +kernel
theorem zd_R_makes_109 : decode zb_R_makes 109 = .ok (.iastore, 1) := by decide +kernel
theorem zd_R_makes_110 : decode zb_R_makes 110 = .ok (.iconst 0, 1) := by decide +kernel
theorem zd_R_makes_111 : decode zb_R_makes 111 = .ok (.ireturn, 1) := by decide +kernel
theorem zd_R_makes_112 : decode zb_R_makes 112 = .ok (.aload_n 0, 1) := by decide +kernel
theorem zd_R_makes_113 : decode zb_R_makes 113 = .ok (.getfield 56, 3) := by decide +kernel
theorem zd_R_makes_116 : decode zb_R_makes 116 = .ok (.iload_n 3, 1) := by decide +kernel
theorem zd_R_makes_117 : decode zb_R_makes 117 = .ok (.iload 4, 2) := by decide +kernel
theorem zd_R_makes_119 : decode zb_R_makes 119 = .ok (.iastore, 1) := by decide +kernel
theorem zd_R_makes_120 : decode zb_R_makes 120 = .ok (.iconst 1, 1) := by decide +kernel
theorem zd_R_makes_121 : decode zb_R_makes 121 = .ok (.ireturn, 1) := by decide +kernel
theorem zd_R_resultOf_0 : decode zb_R_resultOf 0 = .ok (.aload_n 0, 1) := by decide +kernel
theorem zd_R_resultOf_1 : decode zb_R_resultOf 1 = .ok (.getfield 26, 3) := by decide +kernel
theorem zd_R_resultOf_4 : decode zb_R_resultOf 4 = .ok (.iload_n 2, 1) := by decide +kernel
theorem zd_R_resultOf_5 : decode zb_R_resultOf 5 = .ok (.iaload, 1) := by decide +kernel
theorem zd_R_resultOf_6 : decode zb_R_resultOf 6 = .ok (.iconst 3, 1) := by decide +kernel
theorem zd_R_resultOf_7 : decode zb_R_resultOf 7 = .ok (.if_icmp .ne 7, 3) := by decide +kernel
theorem zd_R_resultOf_10 : decode zb_R_resultOf 10 = .ok (.lconst 1, 1) := by decide +kernel
theorem zd_R_resultOf_11 : decode zb_R_resultOf 11 = .ok (.goto 15, 3) := by decide +kernel
theorem zd_R_resultOf_14 : decode zb_R_resultOf 14 = .ok (.aload_n 0, 1) := by decide +kernel
theorem zd_R_resultOf_15 : decode zb_R_resultOf 15 = .ok (.getfield 13, 3) := by decide +kernel
theorem zd_R_resultOf_18 : decode zb_R_resultOf 18 = .ok (.iload_n 1, 1) := by decide +kernel
theorem zd_R_resultOf_19 : decode zb_R_resultOf 19 = .ok (.laload, 1) := by decide +kernel
theorem zd_R_resultOf_20 : decode zb_R_resultOf 20 = .ok (.aload_n 0, 1) := by decide +kernel
theorem zd_R_resultOf_21 : decode zb_R_resultOf 21 = .ok (.getfield 120, 3) := by decide +kernel
theorem zd_R_resultOf_24 : decode zb_R_resultOf 24 = .ok (.i2l, 1) := by decide +kernel
theorem zd_R_resultOf_25 : decode zb_R_resultOf 25 = .ok (.ladd, 1) := by decide +kernel
theorem zd_R_resultOf_26 : decode zb_R_resultOf 26 = .ok (.lstore_n 3, 1) := by decide +kernel
theorem zd_R_resultOf_27 : decode zb_R_resultOf 27 = .ok (.iconst 0, 1) := by decide +kernel
theorem zd_R_resultOf_28 : decode zb_R_resultOf 28 = .ok (.istore 5, 2) := by decide +kernel
theorem zd_R_resultOf_30 : decode zb_R_resultOf 30 = .ok (.iload 5, 2) := by decide +kernel
theorem zd_R_resultOf_32 : decode zb_R_resultOf 32 = .ok (.iconst 3, 1) := by decide +kernel
theorem zd_R_resultOf_33 : decode zb_R_resultOf 33 = .ok (.if_icmp .ge 110, 3) := by decide +kernel
theorem zd_R_resultOf_36 : decode zb_R_resultOf 36 = .ok (.iconst 0, 1) := by decide +kernel
theorem zd_R_resultOf_37 : decode zb_R_resultOf 37 = .ok (.istore 6, 2) := by decide +kernel
theorem zd_R_resultOf_39 : decode zb_R_resultOf 39 = .ok (.iload 6, 2) := by decide +kernel
theorem zd_R_resultOf_41 : decode zb_R_resultOf 41 = .ok (.aload_n 0, 1) := by decide +kernel
theorem zd_R_resultOf_42 : decode zb_R_resultOf 42 = .ok (.getfield 20, 3) := by decide +kernel
theorem zd_R_resultOf_45 : decode zb_R_resultOf 45 = .ok (.iconst 3, 1) := by decide +kernel
theorem zd_R_resultOf_46 : decode zb_R_resultOf 46 = .ok (.iload_n 1, 1) := by decide +kernel
theorem zd_R_resultOf_47 : decode zb_R_resultOf 47 = .ok (.imul, 1) := by decide +kernel
theorem zd_R_resultOf_48 : decode zb_R_resultOf 48 = .ok (.iload 5, 2) := by decide +kernel
theorem zd_R_resultOf_50 : decode zb_R_resultOf 50 = .ok (.iadd, 1) := by decide +kernel
theorem zd_R_resultOf_51 : decode zb_R_resultOf 51 = .ok (.iaload, 1) := by decide +kernel
theorem zd_R_resultOf_52 : decode zb_R_resultOf 52 = .ok (.if_icmp .ge 85, 3) := by decide +kernel
theorem zd_R_resultOf_55 : decode zb_R_resultOf 55 = .ok (.aload_n 0, 1) := by decide +kernel
theorem zd_R_resultOf_56 : decode zb_R_resultOf 56 = .ok (.getfield 29, 3) := by decide +kernel
theorem zd_R_resultOf_59 : decode zb_R_resultOf 59 = .ok (.iload_n 2, 1) := by decide +kernel
theorem zd_R_resultOf_60 : decode zb_R_resultOf 60 = .ok (.iaload, 1) := by decide +kernel
theorem zd_R_resultOf_61 : decode zb_R_resultOf 61 = .ok (.iload 5, 2) := by decide +kernel
theorem zd_R_resultOf_63 : decode zb_R_resultOf 63 = .ok (.ishr, 1) := by decide +kernel
theorem zd_R_resultOf_64 : decode zb_R_resultOf 64 = .ok (.iconst 1, 1) := by decide +kernel
theorem zd_R_resultOf_65 : decode zb_R_resultOf 65 = .ok (.iand, 1) := by decide +kernel
theorem zd_R_resultOf_66 : decode zb_R_resultOf 66 = .ok (.iconst 1, 1) := by decide +kernel
theorem zd_R_resultOf_67 : decode zb_R_resultOf 67 = .ok (.if_icmp .ne 70, 3) := by decide +kernel
theorem zd_R_resultOf_70 : decode zb_R_resultOf 70 = .ok (.aload_n 0, 1) := by decide +kernel
theorem zd_R_resultOf_71 : decode zb_R_resultOf 71 = .ok (.getfield 7, 3) := by decide +kernel
theorem zd_R_resultOf_74 : decode zb_R_resultOf 74 = .ok (.aload_n 0, 1) := by decide +kernel
theorem zd_R_resultOf_75 : decode zb_R_resultOf 75 = .ok (.getfield 23, 3) := by decide +kernel
theorem zd_R_resultOf_78 : decode zb_R_resultOf 78 = .ok (.bipush 12, 2) := by decide +kernel
theorem zd_R_resultOf_80 : decode zb_R_resultOf 80 = .ok (.iload_n 1, 1) := by decide +kernel
theorem zd_R_resultOf_81 : decode zb_R_resultOf 81 = .ok (.imul, 1) := by decide +kernel
theorem zd_R_resultOf_82 : decode zb_R_resultOf 82 = .ok (.iconst 4, 1) := by decide +kernel
theorem zd_R_resultOf_83 : decode zb_R_resultOf 83 = .ok (.iload 5, 2) := by decide +kernel
theorem zd_R_resultOf_85 : decode zb_R_resultOf 85 = .ok (.imul, 1) := by decide +kernel
theorem zd_R_resultOf_86 : decode zb_R_resultOf 86 = .ok (.iadd, 1) := by decide +kernel
theorem zd_R_resultOf_87 : decode zb_R_resultOf 87 = .ok (.iload 6, 2) := by decide +kernel
theorem zd_R_resultOf_89 : decode zb_R_resultOf 89 = .ok (.iadd, 1) := by decide +kernel
theorem zd_R_resultOf_90 : decode zb_R_resultOf 90 = .ok (.iaload, 1) := by decide +kernel
theorem zd_R_resultOf_91 : decode zb_R_resultOf 91 = .ok (.iaload, 1) := by decide +kernel
theorem zd_R_resultOf_92 : decode zb_R_resultOf 92 = .ok (.iload_n 2, 1) := by decide +kernel
theorem zd_R_resultOf_93 : decode zb_R_resultOf 93 = .ok (.aload_n 0, 1) := by decide +kernel
theorem zd_R_resultOf_94 : decode zb_R_resultOf 94 = .ok (.getfield 120, 3) := by decide +kernel
theorem zd_R_resultOf_97 : decode zb_R_resultOf 97 = .ok (.invokestatic 103, 3) := by decide +kernel
theorem zd_R_resultOf_100 : decode zb_R_resultOf 100 = .ok (.istore 7, 2) := by decide +kernel
theorem zd_R_resultOf_102 : decode zb_R_resultOf 102 = .ok (.aload_n 0, 1) := by decide +kernel
theorem zd_R_resultOf_103 : decode zb_R_resultOf 103 = .ok (.getfield 47, 3) := by decide +kernel
theorem zd_R_resultOf_106 : decode zb_R_resultOf 106 = .ok (.iload 7, 2) := by decide +kernel
theorem zd_R_resultOf_108 : decode zb_R_resultOf 108 = .ok (.iaload, 1) := by decide +kernel
theorem zd_R_resultOf_109 : decode zb_R_resultOf 109 = .ok (.iconst 2, 1) := by decide +kernel
theorem zd_R_resultOf_110 : decode zb_R_resultOf 110 = .ok (.if_icmp .ne 21, 3) := by decide +kernel
theorem zd_R_resultOf_113 : decode zb_R_resultOf 113 = .ok (.aload_n 0, 1) := by decide +kernel
theorem zd_R_resultOf_114 : decode zb_R_resultOf 114 = .ok (.getfield 26, 3) := by decide +kernel
theorem zd_R_resultOf_117 : decode zb_R_resultOf 117 = .ok (.iload_n 2, 1) := by decide +kernel
theorem zd_R_resultOf_118 : decode zb_R_resultOf 118 = .ok (.iaload, 1) := by decide +kernel
theorem zd_R_resultOf_119 : decode zb_R_resultOf 119 = .ok (.lload_n 3, 1) := by decide +kernel
theorem zd_R_resultOf_120 : decode zb_R_resultOf 120 = .ok (.aload_n 0, 1) := by decide +kernel
theorem zd_R_resultOf_121 : decode zb_R_resultOf 121 = .ok (.getfield 50, 3) := by decide +kernel
theorem zd_R_resultOf_124 : decode zb_R_resultOf 124 = .ok (.iload 7, 2) := by decide +kernel
theorem zd_R_resultOf_126 : decode zb_R_resultOf 126 = .ok (.laload, 1) := by decide +kernel
theorem zd_R_resultOf_127 : decode zb_R_resultOf 127 = .ok (.invokestatic 129, 3) := by decide +kernel
theorem zd_R_resultOf_130 : decode zb_R_resultOf 130 = .ok (.lstore_n 3, 1) := by decide +kernel
theorem zd_R_resultOf_131 : decode zb_R_resultOf 131 = .ok (.iinc 6 1, 3) := by decide +kernel
theorem zd_R_resultOf_134 : decode zb_R_resultOf 134 = .ok (.goto (-95), 3) := by decide +kernel
theorem zd_R_resultOf_137 : decode zb_R_resultOf 137 = .ok (.iinc 5 1, 3) := by decide +kernel
theorem zd_R_resultOf_140 : decode zb_R_resultOf 140 = .ok (.goto (-110), 3) := by decide +kernel
theorem zd_R_resultOf_143 : decode zb_R_resultOf 143 = .ok (.iconst 0, 1) := by decide +kernel
theorem zd_R_resultOf_144 : decode zb_R_resultOf 144 = .ok (.istore 5, 2) := by decide +kernel
theorem zd_R_resultOf_146 : decode zb_R_resultOf 146 = .ok (.iload 5, 2) := by decide +kernel
theorem zd_R_resultOf_148 : decode zb_R_resultOf 148 = .ok (.aload_n 0, 1) := by decide +kernel
theorem zd_R_resultOf_149 : decode zb_R_resultOf 149 = .ok (.getfield 41, 3) := by decide +kernel
theorem zd_R_resultOf_152 : decode zb_R_resultOf 152 = .ok (.iload_n 2, 1) := by decide +kernel
theorem zd_R_resultOf_153 : decode zb_R_resultOf 153 = .ok (.iaload, 1) := by decide +kernel
theorem zd_R_resultOf_154 : decode zb_R_resultOf 154 = .ok (.if_icmp .ge 69, 3) := by decide +kernel
theorem zd_R_resultOf_157 : decode zb_R_resultOf 157 = .ok (.aload_n 0, 1) := by decide +kernel
theorem zd_R_resultOf_158 : decode zb_R_resultOf 158 = .ok (.getfield 26, 3) := by decide +kernel
theorem zd_R_resultOf_161 : decode zb_R_resultOf 161 = .ok (.iload_n 2, 1) := by decide +kernel
theorem zd_R_resultOf_162 : decode zb_R_resultOf 162 = .ok (.iaload, 1) := by decide +kernel
theorem zd_R_resultOf_163 : decode zb_R_resultOf 163 = .ok (.iconst 3, 1) := by decide +kernel
theorem zd_R_resultOf_164 : decode zb_R_resultOf 164 = .ok (.if_icmp .eq 59, 3) := by decide +kernel
theorem zd_R_resultOf_167 : decode zb_R_resultOf 167 = .ok (.iload_n 1, 1) := by decide +kernel
theorem zd_R_resultOf_168 : decode zb_R_resultOf 168 = .ok (.aload_n 0, 1) := by decide +kernel
theorem zd_R_resultOf_169 : decode zb_R_resultOf 169 = .ok (.getfield 44, 3) := by decide +kernel
theorem zd_R_resultOf_172 : decode zb_R_resultOf 172 = .ok (.iconst 3, 1) := by decide +kernel
theorem zd_R_resultOf_173 : decode zb_R_resultOf 173 = .ok (.iload_n 2, 1) := by decide +kernel
theorem zd_R_resultOf_174 : decode zb_R_resultOf 174 = .ok (.imul, 1) := by decide +kernel
theorem zd_R_resultOf_175 : decode zb_R_resultOf 175 = .ok (.iload 5, 2) := by decide +kernel
theorem zd_R_resultOf_177 : decode zb_R_resultOf 177 = .ok (.iadd, 1) := by decide +kernel
theorem zd_R_resultOf_178 : decode zb_R_resultOf 178 = .ok (.iaload, 1) := by decide +kernel
theorem zd_R_resultOf_179 : decode zb_R_resultOf 179 = .ok (.aload_n 0, 1) := by decide +kernel
theorem zd_R_resultOf_180 : decode zb_R_resultOf 180 = .ok (.getfield 120, 3) := by decide +kernel
theorem zd_R_resultOf_183 : decode zb_R_resultOf 183 = .ok (.invokestatic 103, 3) := by decide +kernel
theorem zd_R_resultOf_186 : decode zb_R_resultOf 186 = .ok (.istore 6, 2) := by decide +kernel
theorem zd_R_resultOf_188 : decode zb_R_resultOf 188 = .ok (.aload_n 0, 1) := by decide +kernel
theorem zd_R_resultOf_189 : decode zb_R_resultOf 189 = .ok (.getfield 47, 3) := by decide +kernel
theorem zd_R_resultOf_192 : decode zb_R_resultOf 192 = .ok (.iload 6, 2) := by decide +kernel
theorem zd_R_resultOf_194 : decode zb_R_resultOf 194 = .ok (.iaload, 1) := by decide +kernel
theorem zd_R_resultOf_195 : decode zb_R_resultOf 195 = .ok (.iconst 2, 1) := by decide +kernel
theorem zd_R_resultOf_196 : decode zb_R_resultOf 196 = .ok (.if_icmp .ne 21, 3) := by decide +kernel
theorem zd_R_resultOf_199 : decode zb_R_resultOf 199 = .ok (.aload_n 0, 1) := by decide +kernel
theorem zd_R_resultOf_200 : decode zb_R_resultOf 200 = .ok (.getfield 26, 3) := by decide +kernel
theorem zd_R_resultOf_203 : decode zb_R_resultOf 203 = .ok (.iload_n 2, 1) := by decide +kernel
theorem zd_R_resultOf_204 : decode zb_R_resultOf 204 = .ok (.iaload, 1) := by decide +kernel
theorem zd_R_resultOf_205 : decode zb_R_resultOf 205 = .ok (.lload_n 3, 1) := by decide +kernel
theorem zd_R_resultOf_206 : decode zb_R_resultOf 206 = .ok (.aload_n 0, 1) := by decide +kernel
theorem zd_R_resultOf_207 : decode zb_R_resultOf 207 = .ok (.getfield 50, 3) := by decide +kernel
theorem zd_R_resultOf_210 : decode zb_R_resultOf 210 = .ok (.iload 6, 2) := by decide +kernel
theorem zd_R_resultOf_212 : decode zb_R_resultOf 212 = .ok (.laload, 1) := by decide +kernel
theorem zd_R_resultOf_213 : decode zb_R_resultOf 213 = .ok (.invokestatic 129, 3) := by decide +kernel
theorem zd_R_resultOf_216 : decode zb_R_resultOf 216 = .ok (.lstore_n 3, 1) := by decide +kernel
theorem zd_R_resultOf_217 : decode zb_R_resultOf 217 = .ok (.iinc 5 1, 3) := by decide +kernel
theorem zd_R_resultOf_220 : decode zb_R_resultOf 220 = .ok (.goto (-74), 3) := by decide +kernel
theorem zd_R_resultOf_223 : decode zb_R_resultOf 223 = .ok (.lload_n 3, 1) := by decide +kernel
theorem zd_R_resultOf_224 : decode zb_R_resultOf 224 = .ok (.lreturn, 1) := by decide +kernel
theorem zd_R_with_0 : decode zb_R_with 0 = .ok (.iload_n 0, 1) := by decide +kernel
theorem zd_R_with_1 : decode zb_R_with 1 = .ok (.iconst 1, 1) := by decide +kernel
theorem zd_R_with_2 : decode zb_R_with 2 = .ok (.if_icmp .ne 17, 3) := by decide +kernel
theorem zd_R_with_5 : decode zb_R_with 5 = .ok (.lload_n 3, 1) := by decide +kernel
theorem zd_R_with_6 : decode zb_R_with 6 = .ok (.lload_n 1, 1) := by decide +kernel
theorem zd_R_with_7 : decode zb_R_with 7 = .ok (.lcmp, 1) := by decide +kernel
theorem zd_R_with_8 : decode zb_R_with 8 = .ok (.ifCond .le 7, 3) := by decide +kernel
theorem zd_R_with_11 : decode zb_R_with 11 = .ok (.lload_n 3, 1) := by decide +kernel
theorem zd_R_with_12 : decode zb_R_with 12 = .ok (.goto 25, 3) := by decide +kernel
theorem zd_R_with_15 : decode zb_R_with 15 = .ok (.lload_n 1, 1) := by decide +kernel
theorem zd_R_with_16 : decode zb_R_with 16 = .ok (.goto 21, 3) := by decide +kernel
theorem zd_R_with_19 : decode zb_R_with 19 = .ok (.iload_n 0, 1) := by decide +kernel
theorem zd_R_with_20 : decode zb_R_with 20 = .ok (.iconst 2, 1) := by decide +kernel
theorem zd_R_with_21 : decode zb_R_with 21 = .ok (.if_icmp .ne 13, 3) := by decide +kernel
theorem zd_R_with_24 : decode zb_R_with 24 = .ok (.ldc2_w 127, 3) := by decide +kernel
theorem zd_R_with_27 : decode zb_R_with 27 = .ok (.lload_n 1, 1) := by decide +kernel
theorem zd_R_with_28 : decode zb_R_with 28 = .ok (.lmul, 1) := by decide +kernel
theorem zd_R_with_29 : decode zb_R_with 29 = .ok (.lload_n 3, 1) := by decide +kernel
theorem zd_R_with_30 : decode zb_R_with 30 = .ok (.ladd, 1) := by decide +kernel
theorem zd_R_with_31 : decode zb_R_with 31 = .ok (.goto 6, 3) := by decide +kernel
theorem zd_R_with_34 : decode zb_R_with 34 = .ok (.lload_n 1, 1) := by decide +kernel
theorem zd_R_with_35 : decode zb_R_with 35 = .ok (.lload_n 3, 1) := by decide +kernel
theorem zd_R_with_36 : decode zb_R_with 36 = .ok (.ladd, 1) := by decide +kernel
theorem zd_R_with_37 : decode zb_R_with 37 = .ok (.lreturn, 1) := by decide +kernel
theorem zd_R_clash_0 : decode zb_R_clash 0 = .ok (.aload_n 0, 1) := by decide +kernel
theorem zd_R_clash_1 : decode zb_R_clash 1 = .ok (.iconst 0, 1) := by decide +kernel
theorem zd_R_clash_2 : decode zb_R_clash 2 = .ok (.putfield 72, 3) := by decide +kernel
theorem zd_R_clash_5 : decode zb_R_clash 5 = .ok (.iload_n 1, 1) := by decide +kernel
theorem zd_R_clash_6 : decode zb_R_clash 6 = .ok (.ifCond .lt 17, 3) := by decide +kernel
theorem zd_R_clash_9 : decode zb_R_clash 9 = .ok (.iload_n 1, 1) := by decide +kernel
theorem zd_R_clash_10 : decode zb_R_clash 10 = .ok (.iconst 5, 1) := by decide +kernel
theorem zd_R_clash_11 : decode zb_R_clash 11 = .ok (.if_icmp .ge 12, 3) := by decide +kernel
theorem zd_R_clash_14 : decode zb_R_clash 14 = .ok (.aload_n 0, 1) := by decide +kernel
theorem zd_R_clash_15 : decode zb_R_clash 15 = .ok (.getfield 59, 3) := by decide +kernel
theorem zd_R_clash_18 : decode zb_R_clash 18 = .ok (.iload_n 1, 1) := by decide +kernel
theorem zd_R_clash_19 : decode zb_R_clash 19 = .ok (.iaload, 1) := by decide +kernel
theorem zd_R_clash_20 : decode zb_R_clash 20 = .ok (.goto 4, 3) := by decide +kernel
theorem zd_R_clash_23 : decode zb_R_clash 23 = .ok (.iconst (-1), 1) := by decide +kernel
theorem zd_R_clash_24 : decode zb_R_clash 24 = .ok (.ireturn, 1) := by decide +kernel
theorem zd_R_state_0 : decode zb_R_state 0 = .ok (.aload_n 0, 1) := by decide +kernel
theorem zd_R_state_1 : decode zb_R_state 1 = .ok (.iconst 0, 1) := by decide +kernel
theorem zd_R_state_2 : decode zb_R_state 2 = .ok (.putfield 72, 3) := by decide +kernel
theorem zd_R_state_5 : decode zb_R_state 5 = .ok (.aload_n 0, 1) := by decide +kernel
theorem zd_R_state_6 : decode zb_R_state 6 = .ok (.iload_n 1, 1) := by decide +kernel
theorem zd_R_state_7 : decode zb_R_state 7 = .ok (.invokevirtual 82, 3) := by decide +kernel
theorem zd_R_state_10 : decode zb_R_state 10 = .ok (.ifCond .eq 18, 3) := by decide +kernel
theorem zd_R_state_13 : decode zb_R_state 13 = .ok (.aload_n 0, 1) := by decide +kernel
theorem zd_R_state_14 : decode zb_R_state 14 = .ok (.iload_n 2, 1) := by decide +kernel
theorem zd_R_state_15 : decode zb_R_state 15 = .ok (.invokevirtual 107, 3) := by decide +kernel
theorem zd_R_state_18 : decode zb_R_state 18 = .ok (.ifCond .eq 10, 3) := by decide +kernel
theorem zd_R_state_21 : decode zb_R_state 21 = .ok (.iload_n 3, 1) := by decide +kernel
theorem zd_R_state_22 : decode zb_R_state 22 = .ok (.invokestatic 153, 3) := by decide +kernel
theorem zd_R_state_25 : decode zb_R_state 25 = .ok (.ifCond .ne 5, 3) := by decide +kernel
theorem zd_R_state_28 : decode zb_R_state 28 = .ok (.iconst (-1), 1) := by decide +kernel
theorem zd_R_state_29 : decode zb_R_state 29 = .ok (.ireturn, 1) := by decide +kernel
theorem zd_R_state_30 : decode zb_R_state 30 = .ok (.aload_n 0, 1) := by decide +kernel
theorem zd_R_state_31 : decode zb_R_state 31 = .ok (.getfield 47, 3) := by decide +kernel
theorem zd_R_state_34 : decode zb_R_state 34 = .ok (.aload_n 0, 1) := by decide +kernel
theorem zd_R_state_35 : decode zb_R_state 35 = .ok (.getfield 7, 3) := by decide +kernel
theorem zd_R_state_38 : decode zb_R_state 38 = .ok (.iload_n 1, 1) := by decide +kernel
theorem zd_R_state_39 : decode zb_R_state 39 = .ok (.iaload, 1) := by decide +kernel
theorem zd_R_state_40 : decode zb_R_state 40 = .ok (.iload_n 2, 1) := by decide +kernel
theorem zd_R_state_41 : decode zb_R_state 41 = .ok (.iload_n 3, 1) := by decide +kernel
theorem zd_R_state_42 : decode zb_R_state 42 = .ok (.invokestatic 103, 3) := by decide +kernel
theorem zd_R_state_45 : decode zb_R_state 45 = .ok (.iaload, 1) := by decide +kernel
theorem zd_R_state_46 : decode zb_R_state 46 = .ok (.iconst 1, 1) := by decide +kernel
theorem zd_R_state_47 : decode zb_R_state 47 = .ok (.isub, 1) := by decide +kernel
theorem zd_R_state_48 : decode zb_R_state 48 = .ok (.ireturn, 1) := by decide +kernel
theorem zd_R_result_0 : decode zb_R_result 0 = .ok (.aload_n 0, 1) := by decide +kernel
theorem zd_R_result_1 : decode zb_R_result 1 = .ok (.aload_n 0, 1) := by decide +kernel
theorem zd_R_result_2 : decode zb_R_result 2 = .ok (.iload_n 1, 1) := by decide +kernel
theorem zd_R_result_3 : decode zb_R_result 3 = .ok (.invokevirtual 82, 3) := by decide +kernel
theorem zd_R_result_6 : decode zb_R_result 6 = .ok (.ifCond .eq 18, 3) := by decide +kernel
theorem zd_R_result_9 : decode zb_R_result 9 = .ok (.aload_n 0, 1) := by decide +kernel
theorem zd_R_result_10 : decode zb_R_result 10 = .ok (.iload_n 2, 1) := by decide +kernel
theorem zd_R_result_11 : decode zb_R_result 11 = .ok (.invokevirtual 107, 3) := by decide +kernel
theorem zd_R_result_14 : decode zb_R_result 14 = .ok (.ifCond .eq 10, 3) := by decide +kernel
theorem zd_R_result_17 : decode zb_R_result 17 = .ok (.iload_n 3, 1) := by decide +kernel
theorem zd_R_result_18 : decode zb_R_result 18 = .ok (.invokestatic 153, 3) := by decide +kernel
theorem zd_R_result_21 : decode zb_R_result 21 = .ok (.ifCond .ne 7, 3) := by decide +kernel
theorem zd_R_result_24 : decode zb_R_result 24 = .ok (.iconst 1, 1) := by decide +kernel
theorem zd_R_result_25 : decode zb_R_result 25 = .ok (.goto 28, 3) := by decide +kernel
theorem zd_R_result_28 : decode zb_R_result 28 = .ok (.aload_n 0, 1) := by decide +kernel
end
section
theorem zd_R_result_29 : decode zb_R_result 29 = .ok (.getfield 47, 3) := by decide +kernel
theorem zd_R_result_32 : decode zb_R_result 32 = .ok (.aload_n 0, 1) := by decide +kernel
theorem zd_R_result_33 : decode zb_R_result 33 = .ok (.getfield 7, 3) := by decide +kernel
theorem zd_R_result_36 : decode zb_R_result 36 = .ok (.iload_n 1, 1) := by decide +kernel
theorem zd_R_result_37 : decode zb_R_result 37 = .ok (.iaload, 1) := by decide +kernel
theorem zd_R_result_38 : decode zb_R_result 38 = .ok (.iload_n 2, 1) := by decide +kernel
theorem zd_R_result_39 : decode zb_R_result 39 = .ok (.iload_n 3, 1) := by decide +kernel
theorem zd_R_result_40 : decode zb_R_result 40 = .ok (.invokestatic 103, 3) := by decide +kernel
theorem zd_R_result_43 : decode zb_R_result 43 = .ok (.iaload, 1) := by decide +kernel
theorem zd_R_result_44 : decode zb_R_result 44 = .ok (.iconst 2, 1) := by decide +kernel
theorem zd_R_result_45 : decode zb_R_result 45 = .ok (.if_icmp .eq 7, 3) := by decide +kernel
theorem zd_R_result_48 : decode zb_R_result 48 = .ok (.iconst 2, 1) := by decide +kernel
theorem zd_R_result_49 : decode zb_R_result 49 = .ok (.goto 4, 3) := by decide +kernel
theorem zd_R_result_52 : decode zb_R_result 52 = .ok (.iconst 0, 1) := by decide +kernel
theorem zd_R_result_53 : decode zb_R_result 53 = .ok (.putfield 72, 3) := by decide +kernel
theorem zd_R_result_56 : decode zb_R_result 56 = .ok (.aload_n 0, 1) := by decide +kernel
theorem zd_R_result_57 : decode zb_R_result 57 = .ok (.getfield 72, 3) := by decide +kernel
theorem zd_R_result_60 : decode zb_R_result 60 = .ok (.ifCond .le 7, 3) := by decide +kernel
theorem zd_R_result_63 : decode zb_R_result 63 = .ok (.lconst 0, 1) := by decide +kernel
theorem zd_R_result_64 : decode zb_R_result 64 = .ok (.goto 19, 3) := by decide +kernel
theorem zd_R_result_67 : decode zb_R_result 67 = .ok (.aload_n 0, 1) := by decide +kernel
theorem zd_R_result_68 : decode zb_R_result 68 = .ok (.getfield 50, 3) := by decide +kernel
theorem zd_R_result_71 : decode zb_R_result 71 = .ok (.aload_n 0, 1) := by decide +kernel
theorem zd_R_result_72 : decode zb_R_result 72 = .ok (.getfield 7, 3) := by decide +kernel
theorem zd_R_result_75 : decode zb_R_result 75 = .ok (.iload_n 1, 1) := by decide +kernel
theorem zd_R_result_76 : decode zb_R_result 76 = .ok (.iaload, 1) := by decide +kernel
theorem zd_R_result_77 : decode zb_R_result 77 = .ok (.iload_n 2, 1) := by decide +kernel
theorem zd_R_result_78 : decode zb_R_result 78 = .ok (.iload_n 3, 1) := by decide +kernel
theorem zd_R_result_79 : decode zb_R_result 79 = .ok (.invokestatic 103, 3) := by decide +kernel
theorem zd_R_result_82 : decode zb_R_result 82 = .ok (.laload, 1) := by decide +kernel
theorem zd_R_result_83 : decode zb_R_result 83 = .ok (.lreturn, 1) := by decide +kernel
theorem zd_R_worked_0 : decode zb_R_worked 0 = .ok (.aload_n 0, 1) := by decide +kernel
theorem zd_R_worked_1 : decode zb_R_worked 1 = .ok (.iconst 0, 1) := by decide +kernel
theorem zd_R_worked_2 : decode zb_R_worked 2 = .ok (.putfield 72, 3) := by decide +kernel
theorem zd_R_worked_5 : decode zb_R_worked 5 = .ok (.aload_n 0, 1) := by decide +kernel
theorem zd_R_worked_6 : decode zb_R_worked 6 = .ok (.iload_n 1, 1) := by decide +kernel
theorem zd_R_worked_7 : decode zb_R_worked 7 = .ok (.invokevirtual 82, 3) := by decide +kernel
theorem zd_R_worked_10 : decode zb_R_worked 10 = .ok (.ifCond .eq 30, 3) := by decide +kernel
theorem zd_R_worked_13 : decode zb_R_worked 13 = .ok (.aload_n 0, 1) := by decide +kernel
theorem zd_R_worked_14 : decode zb_R_worked 14 = .ok (.iload_n 2, 1) := by decide +kernel
theorem zd_R_worked_15 : decode zb_R_worked 15 = .ok (.invokevirtual 107, 3) := by decide +kernel
theorem zd_R_worked_18 : decode zb_R_worked 18 = .ok (.ifCond .eq 22, 3) := by decide +kernel
theorem zd_R_worked_21 : decode zb_R_worked 21 = .ok (.aload_n 0, 1) := by decide +kernel
theorem zd_R_worked_22 : decode zb_R_worked 22 = .ok (.getfield 53, 3) := by decide +kernel
theorem zd_R_worked_25 : decode zb_R_worked 25 = .ok (.bipush 8, 2) := by decide +kernel
theorem zd_R_worked_27 : decode zb_R_worked 27 = .ok (.aload_n 0, 1) := by decide +kernel
theorem zd_R_worked_28 : decode zb_R_worked 28 = .ok (.getfield 7, 3) := by decide +kernel
theorem zd_R_worked_31 : decode zb_R_worked 31 = .ok (.iload_n 1, 1) := by decide +kernel
theorem zd_R_worked_32 : decode zb_R_worked 32 = .ok (.iaload, 1) := by decide +kernel
theorem zd_R_worked_33 : decode zb_R_worked 33 = .ok (.imul, 1) := by decide +kernel
theorem zd_R_worked_34 : decode zb_R_worked 34 = .ok (.iload_n 2, 1) := by decide +kernel
theorem zd_R_worked_35 : decode zb_R_worked 35 = .ok (.iadd, 1) := by decide +kernel
theorem zd_R_worked_36 : decode zb_R_worked 36 = .ok (.iaload, 1) := by decide +kernel
theorem zd_R_worked_37 : decode zb_R_worked 37 = .ok (.goto 4, 3) := by decide +kernel
theorem zd_R_worked_40 : decode zb_R_worked 40 = .ok (.iconst 0, 1) := by decide +kernel
theorem zd_R_worked_41 : decode zb_R_worked 41 = .ok (.ireturn, 1) := by decide +kernel
theorem zd_R_done_0 : decode zb_R_done 0 = .ok (.aload_n 0, 1) := by decide +kernel
theorem zd_R_done_1 : decode zb_R_done 1 = .ok (.iconst 0, 1) := by decide +kernel
theorem zd_R_done_2 : decode zb_R_done 2 = .ok (.putfield 72, 3) := by decide +kernel
theorem zd_R_done_5 : decode zb_R_done 5 = .ok (.iconst 0, 1) := by decide +kernel
theorem zd_R_done_6 : decode zb_R_done 6 = .ok (.istore_n 1, 1) := by decide +kernel
theorem zd_R_done_7 : decode zb_R_done 7 = .ok (.iconst 0, 1) := by decide +kernel
theorem zd_R_done_8 : decode zb_R_done 8 = .ok (.istore_n 2, 1) := by decide +kernel
theorem zd_R_done_9 : decode zb_R_done 9 = .ok (.iload_n 2, 1) := by decide +kernel
theorem zd_R_done_10 : decode zb_R_done 10 = .ok (.sipush 2560, 3) := by decide +kernel
theorem zd_R_done_13 : decode zb_R_done 13 = .ok (.if_icmp .ge 27, 3) := by decide +kernel
theorem zd_R_done_16 : decode zb_R_done 16 = .ok (.iload_n 1, 1) := by decide +kernel
theorem zd_R_done_17 : decode zb_R_done 17 = .ok (.aload_n 0, 1) := by decide +kernel
theorem zd_R_done_18 : decode zb_R_done 18 = .ok (.getfield 47, 3) := by decide +kernel
theorem zd_R_done_21 : decode zb_R_done 21 = .ok (.iload_n 2, 1) := by decide +kernel
theorem zd_R_done_22 : decode zb_R_done 22 = .ok (.iaload, 1) := by decide +kernel
theorem zd_R_done_23 : decode zb_R_done 23 = .ok (.iconst 2, 1) := by decide +kernel
theorem zd_R_done_24 : decode zb_R_done 24 = .ok (.if_icmp .ne 7, 3) := by decide +kernel
theorem zd_R_done_27 : decode zb_R_done 27 = .ok (.iconst 1, 1) := by decide +kernel
theorem zd_R_done_28 : decode zb_R_done 28 = .ok (.goto 4, 3) := by decide +kernel
theorem zd_R_done_31 : decode zb_R_done 31 = .ok (.iconst 0, 1) := by decide +kernel
theorem zd_R_done_32 : decode zb_R_done 32 = .ok (.iadd, 1) := by decide +kernel
theorem zd_R_done_33 : decode zb_R_done 33 = .ok (.istore_n 1, 1) := by decide +kernel
theorem zd_R_done_34 : decode zb_R_done 34 = .ok (.iinc 2 1, 3) := by decide +kernel
theorem zd_R_done_37 : decode zb_R_done 37 = .ok (.goto (-28), 3) := by decide +kernel
theorem zd_R_done_40 : decode zb_R_done 40 = .ok (.iload_n 1, 1) := by decide +kernel
theorem zd_R_done_41 : decode zb_R_done 41 = .ok (.ireturn, 1) := by decide +kernel
theorem zd_R_maker_0 : decode zb_R_maker 0 = .ok (.aload_n 0, 1) := by decide +kernel
theorem zd_R_maker_1 : decode zb_R_maker 1 = .ok (.iconst 0, 1) := by decide +kernel
theorem zd_R_maker_2 : decode zb_R_maker 2 = .ok (.putfield 72, 3) := by decide +kernel
theorem zd_R_maker_5 : decode zb_R_maker 5 = .ok (.aload_n 0, 1) := by decide +kernel
theorem zd_R_maker_6 : decode zb_R_maker 6 = .ok (.iload_n 1, 1) := by decide +kernel
theorem zd_R_maker_7 : decode zb_R_maker 7 = .ok (.invokevirtual 82, 3) := by decide +kernel
theorem zd_R_maker_10 : decode zb_R_maker 10 = .ok (.ifCond .eq 13, 3) := by decide +kernel
theorem zd_R_maker_13 : decode zb_R_maker 13 = .ok (.iload_n 2, 1) := by decide +kernel
theorem zd_R_maker_14 : decode zb_R_maker 14 = .ok (.ifCond .lt 9, 3) := by decide +kernel
theorem zd_R_maker_17 : decode zb_R_maker 17 = .ok (.iload_n 2, 1) := by decide +kernel
theorem zd_R_maker_18 : decode zb_R_maker 18 = .ok (.bipush 10, 2) := by decide +kernel
theorem zd_R_maker_20 : decode zb_R_maker 20 = .ok (.if_icmp .lt 5, 3) := by decide +kernel
theorem zd_R_maker_23 : decode zb_R_maker 23 = .ok (.iconst (-1), 1) := by decide +kernel
theorem zd_R_maker_24 : decode zb_R_maker 24 = .ok (.ireturn, 1) := by decide +kernel
theorem zd_R_maker_25 : decode zb_R_maker 25 = .ok (.aload_n 0, 1) := by decide +kernel
theorem zd_R_maker_26 : decode zb_R_maker 26 = .ok (.getfield 56, 3) := by decide +kernel
theorem zd_R_maker_29 : decode zb_R_maker 29 = .ok (.bipush 10, 2) := by decide +kernel
theorem zd_R_maker_31 : decode zb_R_maker 31 = .ok (.aload_n 0, 1) := by decide +kernel
theorem zd_R_maker_32 : decode zb_R_maker 32 = .ok (.getfield 7, 3) := by decide +kernel
theorem zd_R_maker_35 : decode zb_R_maker 35 = .ok (.iload_n 1, 1) := by decide +kernel
theorem zd_R_maker_36 : decode zb_R_maker 36 = .ok (.iaload, 1) := by decide +kernel
theorem zd_R_maker_37 : decode zb_R_maker 37 = .ok (.imul, 1) := by decide +kernel
theorem zd_R_maker_38 : decode zb_R_maker 38 = .ok (.iload_n 2, 1) := by decide +kernel
theorem zd_R_maker_39 : decode zb_R_maker 39 = .ok (.iadd, 1) := by decide +kernel
theorem zd_R_maker_40 : decode zb_R_maker 40 = .ok (.iaload, 1) := by decide +kernel
theorem zd_R_maker_41 : decode zb_R_maker 41 = .ok (.istore_n 3, 1) := by decide +kernel
theorem zd_R_maker_42 : decode zb_R_maker 42 = .ok (.iload_n 3, 1) := by decide +kernel
theorem zd_R_maker_43 : decode zb_R_maker 43 = .ok (.iconst (-1), 1) := by decide +kernel
theorem zd_R_maker_44 : decode zb_R_maker 44 = .ok (.if_icmp .ne 7, 3) := by decide +kernel
theorem zd_R_maker_47 : decode zb_R_maker 47 = .ok (.iconst (-1), 1) := by decide +kernel
theorem zd_R_maker_48 : decode zb_R_maker 48 = .ok (.goto 7, 3) := by decide +kernel
theorem zd_R_maker_51 : decode zb_R_maker 51 = .ok (.iload_n 3, 1) := by decide +kernel
theorem zd_R_maker_52 : decode zb_R_maker 52 = .ok (.bipush 16, 2) := by decide +kernel
theorem zd_R_maker_54 : decode zb_R_maker 54 = .ok (.idiv, 1) := by decide +kernel
theorem zd_R_maker_55 : decode zb_R_maker 55 = .ok (.ireturn, 1) := by decide +kernel
theorem zd_L_law_0 : decode zb_L_law 0 = .ok (.new 8, 3) := by decide +kernel
theorem zd_L_law_3 : decode zb_L_law 3 = .ok (.dup, 1) := by decide +kernel
theorem zd_L_law_4 : decode zb_L_law 4 = .ok (.invokespecial 17, 3) := by decide +kernel
theorem zd_L_law_7 : decode zb_L_law 7 = .ok (.astore_n 1, 1) := by decide +kernel
theorem zd_L_law_8 : decode zb_L_law 8 = .ok (.new 18, 3) := by decide +kernel
theorem zd_L_law_11 : decode zb_L_law 11 = .ok (.dup, 1) := by decide +kernel
theorem zd_L_law_12 : decode zb_L_law 12 = .ok (.invokespecial 20, 3) := by decide +kernel
theorem zd_L_law_15 : decode zb_L_law 15 = .ok (.astore_n 2, 1) := by decide +kernel
theorem zd_L_law_16 : decode zb_L_law 16 = .ok (.iconst 1, 1) := by decide +kernel
theorem zd_L_law_17 : decode zb_L_law 17 = .ok (.newarray .long, 2) := by decide +kernel
theorem zd_L_law_19 : decode zb_L_law 19 = .ok (.astore_n 3, 1) := by decide +kernel
theorem zd_L_law_20 : decode zb_L_law 20 = .ok (.iconst 0, 1) := by decide +kernel
theorem zd_L_law_21 : decode zb_L_law 21 = .ok (.istore 4, 2) := by decide +kernel
theorem zd_L_law_23 : decode zb_L_law 23 = .ok (.iload 4, 2) := by decide +kernel
theorem zd_L_law_25 : decode zb_L_law 25 = .ok (.aload_n 0, 1) := by decide +kernel
theorem zd_L_law_26 : decode zb_L_law 26 = .ok (.arraylength, 1) := by decide +kernel
theorem zd_L_law_27 : decode zb_L_law 27 = .ok (.bipush 6, 2) := by decide +kernel
theorem zd_L_law_29 : decode zb_L_law 29 = .ok (.isub, 1) := by decide +kernel
theorem zd_L_law_30 : decode zb_L_law 30 = .ok (.if_icmp .gt 736, 3) := by decide +kernel
theorem zd_L_law_33 : decode zb_L_law 33 = .ok (.aload_n 0, 1) := by decide +kernel
theorem zd_L_law_34 : decode zb_L_law 34 = .ok (.iload 4, 2) := by decide +kernel
theorem zd_L_law_36 : decode zb_L_law 36 = .ok (.iaload, 1) := by decide +kernel
theorem zd_L_law_37 : decode zb_L_law 37 = .ok (.bipush 15, 2) := by decide +kernel
theorem zd_L_law_39 : decode zb_L_law 39 = .ok (.iand, 1) := by decide +kernel
theorem zd_L_law_40 : decode zb_L_law 40 = .ok (.tableswitch 720 0 13 #[72, 141, 166, 191, 240, 321, 394, 431, 480, 505, 554, 633, 670, 683], 72) := by decide +kernel
theorem zd_L_law_112 : decode zb_L_law 112 = .ok (.aload_n 1, 1) := by decide +kernel
theorem zd_L_law_113 : decode zb_L_law 113 = .ok (.aload_n 0, 1) := by decide +kernel
theorem zd_L_law_114 : decode zb_L_law 114 = .ok (.iload 4, 2) := by decide +kernel
theorem zd_L_law_116 : decode zb_L_law 116 = .ok (.iconst 1, 1) := by decide +kernel
theorem zd_L_law_117 : decode zb_L_law 117 = .ok (.iadd, 1) := by decide +kernel
theorem zd_L_law_118 : decode zb_L_law 118 = .ok (.iaload, 1) := by decide +kernel
theorem zd_L_law_119 : decode zb_L_law 119 = .ok (.i2l, 1) := by decide +kernel
theorem zd_L_law_120 : decode zb_L_law 120 = .ok (.bipush 32, 2) := by decide +kernel
theorem zd_L_law_122 : decode zb_L_law 122 = .ok (.lshl, 1) := by decide +kernel
theorem zd_L_law_123 : decode zb_L_law 123 = .ok (.aload_n 0, 1) := by decide +kernel
theorem zd_L_law_124 : decode zb_L_law 124 = .ok (.iload 4, 2) := by decide +kernel
theorem zd_L_law_126 : decode zb_L_law 126 = .ok (.iconst 2, 1) := by decide +kernel
theorem zd_L_law_127 : decode zb_L_law 127 = .ok (.iadd, 1) := by decide +kernel
theorem zd_L_law_128 : decode zb_L_law 128 = .ok (.iaload, 1) := by decide +kernel
theorem zd_L_law_129 : decode zb_L_law 129 = .ok (.i2l, 1) := by decide +kernel
theorem zd_L_law_130 : decode zb_L_law 130 = .ok (.ldc2_w 21, 3) := by decide +kernel
theorem zd_L_law_133 : decode zb_L_law 133 = .ok (.land, 1) := by decide +kernel
theorem zd_L_law_134 : decode zb_L_law 134 = .ok (.lor, 1) := by decide +kernel
theorem zd_L_law_135 : decode zb_L_law 135 = .ok (.aload_n 0, 1) := by decide +kernel
theorem zd_L_law_136 : decode zb_L_law 136 = .ok (.iload 4, 2) := by decide +kernel
theorem zd_L_law_138 : decode zb_L_law 138 = .ok (.iconst 3, 1) := by decide +kernel
theorem zd_L_law_139 : decode zb_L_law 139 = .ok (.iadd, 1) := by decide +kernel
theorem zd_L_law_140 : decode zb_L_law 140 = .ok (.iaload, 1) := by decide +kernel
theorem zd_L_law_141 : decode zb_L_law 141 = .ok (.invokevirtual 23, 3) := by decide +kernel
theorem zd_L_law_144 : decode zb_L_law 144 = .ok (.aload_n 2, 1) := by decide +kernel
theorem zd_L_law_145 : decode zb_L_law 145 = .ok (.aload_n 0, 1) := by decide +kernel
theorem zd_L_law_146 : decode zb_L_law 146 = .ok (.iload 4, 2) := by decide +kernel
theorem zd_L_law_148 : decode zb_L_law 148 = .ok (.iconst 1, 1) := by decide +kernel
theorem zd_L_law_149 : decode zb_L_law 149 = .ok (.iadd, 1) := by decide +kernel
theorem zd_L_law_150 : decode zb_L_law 150 = .ok (.iaload, 1) := by decide +kernel
theorem zd_L_law_151 : decode zb_L_law 151 = .ok (.i2l, 1) := by decide +kernel
theorem zd_L_law_152 : decode zb_L_law 152 = .ok (.bipush 32, 2) := by decide +kernel
theorem zd_L_law_154 : decode zb_L_law 154 = .ok (.lshl, 1) := by decide +kernel
theorem zd_L_law_155 : decode zb_L_law 155 = .ok (.aload_n 0, 1) := by decide +kernel
theorem zd_L_law_156 : decode zb_L_law 156 = .ok (.iload 4, 2) := by decide +kernel
theorem zd_L_law_158 : decode zb_L_law 158 = .ok (.iconst 2, 1) := by decide +kernel
theorem zd_L_law_159 : decode zb_L_law 159 = .ok (.iadd, 1) := by decide +kernel
theorem zd_L_law_160 : decode zb_L_law 160 = .ok (.iaload, 1) := by decide +kernel
theorem zd_L_law_161 : decode zb_L_law 161 = .ok (.i2l, 1) := by decide +kernel
theorem zd_L_law_162 : decode zb_L_law 162 = .ok (.ldc2_w 21, 3) := by decide +kernel
theorem zd_L_law_165 : decode zb_L_law 165 = .ok (.land, 1) := by decide +kernel
theorem zd_L_law_166 : decode zb_L_law 166 = .ok (.lor, 1) := by decide +kernel
theorem zd_L_law_167 : decode zb_L_law 167 = .ok (.aload_n 0, 1) := by decide +kernel
theorem zd_L_law_168 : decode zb_L_law 168 = .ok (.iload 4, 2) := by decide +kernel
theorem zd_L_law_170 : decode zb_L_law 170 = .ok (.iconst 3, 1) := by decide +kernel
theorem zd_L_law_171 : decode zb_L_law 171 = .ok (.iadd, 1) := by decide +kernel
theorem zd_L_law_172 : decode zb_L_law 172 = .ok (.iaload, 1) := by decide +kernel
theorem zd_L_law_173 : decode zb_L_law 173 = .ok (.invokevirtual 27, 3) := by decide +kernel
theorem zd_L_law_176 : decode zb_L_law 176 = .ok (.if_icmp .eq 584, 3) := by decide +kernel
theorem zd_L_law_179 : decode zb_L_law 179 = .ok (.iconst 0, 1) := by decide +kernel
theorem zd_L_law_180 : decode zb_L_law 180 = .ok (.ireturn, 1) := by decide +kernel
theorem zd_L_law_181 : decode zb_L_law 181 = .ok (.aload_n 1, 1) := by decide +kernel
theorem zd_L_law_182 : decode zb_L_law 182 = .ok (.aload_n 0, 1) := by decide +kernel
theorem zd_L_law_183 : decode zb_L_law 183 = .ok (.iload 4, 2) := by decide +kernel
theorem zd_L_law_185 : decode zb_L_law 185 = .ok (.iconst 1, 1) := by decide +kernel
theorem zd_L_law_186 : decode zb_L_law 186 = .ok (.iadd, 1) := by decide +kernel
theorem zd_L_law_187 : decode zb_L_law 187 = .ok (.iaload, 1) := by decide +kernel
theorem zd_L_law_188 : decode zb_L_law 188 = .ok (.invokevirtual 28, 3) := by decide +kernel
theorem zd_L_law_191 : decode zb_L_law 191 = .ok (.aload_n 2, 1) := by decide +kernel
theorem zd_L_law_192 : decode zb_L_law 192 = .ok (.aload_n 0, 1) := by decide +kernel
theorem zd_L_law_193 : decode zb_L_law 193 = .ok (.iload 4, 2) := by decide +kernel
theorem zd_L_law_195 : decode zb_L_law 195 = .ok (.iconst 1, 1) := by decide +kernel
theorem zd_L_law_196 : decode zb_L_law 196 = .ok (.iadd, 1) := by decide +kernel
theorem zd_L_law_197 : decode zb_L_law 197 = .ok (.iaload, 1) := by decide +kernel
theorem zd_L_law_198 : decode zb_L_law 198 = .ok (.invokevirtual 32, 3) := by decide +kernel
theorem zd_L_law_201 : decode zb_L_law 201 = .ok (.if_icmp .eq 559, 3) := by decide +kernel
theorem zd_L_law_204 : decode zb_L_law 204 = .ok (.iconst 0, 1) := by decide +kernel
theorem zd_L_law_205 : decode zb_L_law 205 = .ok (.ireturn, 1) := by decide +kernel
theorem zd_L_law_206 : decode zb_L_law 206 = .ok (.aload_n 1, 1) := by decide +kernel
theorem zd_L_law_207 : decode zb_L_law 207 = .ok (.aload_n 0, 1) := by decide +kernel
theorem zd_L_law_208 : decode zb_L_law 208 = .ok (.iload 4, 2) := by decide +kernel
theorem zd_L_law_210 : decode zb_L_law 210 = .ok (.iconst 1, 1) := by decide +kernel
theorem zd_L_law_211 : decode zb_L_law 211 = .ok (.iadd, 1) := by decide +kernel
theorem zd_L_law_212 : decode zb_L_law 212 = .ok (.iaload, 1) := by decide +kernel
theorem zd_L_law_213 : decode zb_L_law 213 = .ok (.invokevirtual 33, 3) := by decide +kernel
theorem zd_L_law_216 : decode zb_L_law 216 = .ok (.aload_n 2, 1) := by decide +kernel
theorem zd_L_law_217 : decode zb_L_law 217 = .ok (.aload_n 0, 1) := by decide +kernel
theorem zd_L_law_218 : decode zb_L_law 218 = .ok (.iload 4, 2) := by decide +kernel
theorem zd_L_law_220 : decode zb_L_law 220 = .ok (.iconst 1, 1) := by decide +kernel
theorem zd_L_law_221 : decode zb_L_law 221 = .ok (.iadd, 1) := by decide +kernel
theorem zd_L_law_222 : decode zb_L_law 222 = .ok (.iaload, 1) := by decide +kernel
theorem zd_L_law_223 : decode zb_L_law 223 = .ok (.invokevirtual 36, 3) := by decide +kernel
theorem zd_L_law_226 : decode zb_L_law 226 = .ok (.if_icmp .eq 534, 3) := by decide +kernel
theorem zd_L_law_229 : decode zb_L_law 229 = .ok (.iconst 0, 1) := by decide +kernel
theorem zd_L_law_230 : decode zb_L_law 230 = .ok (.ireturn, 1) := by decide +kernel
theorem zd_L_law_231 : decode zb_L_law 231 = .ok (.aload_n 1, 1) := by decide +kernel
theorem zd_L_law_232 : decode zb_L_law 232 = .ok (.aload_n 0, 1) := by decide +kernel
theorem zd_L_law_233 : decode zb_L_law 233 = .ok (.iload 4, 2) := by decide +kernel
theorem zd_L_law_235 : decode zb_L_law 235 = .ok (.iconst 1, 1) := by decide +kernel
theorem zd_L_law_236 : decode zb_L_law 236 = .ok (.iadd, 1) := by decide +kernel
theorem zd_L_law_237 : decode zb_L_law 237 = .ok (.iaload, 1) := by decide +kernel
theorem zd_L_law_238 : decode zb_L_law 238 = .ok (.aload_n 0, 1) := by decide +kernel
theorem zd_L_law_239 : decode zb_L_law 239 = .ok (.iload 4, 2) := by decide +kernel
theorem zd_L_law_241 : decode zb_L_law 241 = .ok (.iconst 2, 1) := by decide +kernel
theorem zd_L_law_242 : decode zb_L_law 242 = .ok (.iadd, 1) := by decide +kernel
theorem zd_L_law_243 : decode zb_L_law 243 = .ok (.iaload, 1) := by decide +kernel
theorem zd_L_law_244 : decode zb_L_law 244 = .ok (.aload_n 0, 1) := by decide +kernel
theorem zd_L_law_245 : decode zb_L_law 245 = .ok (.iload 4, 2) := by decide +kernel
theorem zd_L_law_247 : decode zb_L_law 247 = .ok (.iconst 3, 1) := by decide +kernel
theorem zd_L_law_248 : decode zb_L_law 248 = .ok (.iadd, 1) := by decide +kernel
theorem zd_L_law_249 : decode zb_L_law 249 = .ok (.iaload, 1) := by decide +kernel
theorem zd_L_law_250 : decode zb_L_law 250 = .ok (.invokevirtual 37, 3) := by decide +kernel
theorem zd_L_law_253 : decode zb_L_law 253 = .ok (.aload_n 2, 1) := by decide +kernel
theorem zd_L_law_254 : decode zb_L_law 254 = .ok (.aload_n 0, 1) := by decide +kernel
theorem zd_L_law_255 : decode zb_L_law 255 = .ok (.iload 4, 2) := by decide +kernel
theorem zd_L_law_257 : decode zb_L_law 257 = .ok (.iconst 1, 1) := by decide +kernel
theorem zd_L_law_258 : decode zb_L_law 258 = .ok (.iadd, 1) := by decide +kernel
theorem zd_L_law_259 : decode zb_L_law 259 = .ok (.iaload, 1) := by decide +kernel
theorem zd_L_law_260 : decode zb_L_law 260 = .ok (.aload_n 0, 1) := by decide +kernel
theorem zd_L_law_261 : decode zb_L_law 261 = .ok (.iload 4, 2) := by decide +kernel
theorem zd_L_law_263 : decode zb_L_law 263 = .ok (.iconst 2, 1) := by decide +kernel
theorem zd_L_law_264 : decode zb_L_law 264 = .ok (.iadd, 1) := by decide +kernel
theorem zd_L_law_265 : decode zb_L_law 265 = .ok (.iaload, 1) := by decide +kernel
theorem zd_L_law_266 : decode zb_L_law 266 = .ok (.aload_n 0, 1) := by decide +kernel
theorem zd_L_law_267 : decode zb_L_law 267 = .ok (.iload 4, 2) := by decide +kernel
theorem zd_L_law_269 : decode zb_L_law 269 = .ok (.iconst 3, 1) := by decide +kernel
theorem zd_L_law_270 : decode zb_L_law 270 = .ok (.iadd, 1) := by decide +kernel
theorem zd_L_law_271 : decode zb_L_law 271 = .ok (.iaload, 1) := by decide +kernel
theorem zd_L_law_272 : decode zb_L_law 272 = .ok (.invokevirtual 41, 3) := by decide +kernel
theorem zd_L_law_275 : decode zb_L_law 275 = .ok (.if_icmp .eq 485, 3) := by decide +kernel
theorem zd_L_law_278 : decode zb_L_law 278 = .ok (.iconst 0, 1) := by decide +kernel
theorem zd_L_law_279 : decode zb_L_law 279 = .ok (.ireturn, 1) := by decide +kernel
theorem zd_L_law_280 : decode zb_L_law 280 = .ok (.aload_n 1, 1) := by decide +kernel
theorem zd_L_law_281 : decode zb_L_law 281 = .ok (.aload_n 0, 1) := by decide +kernel
theorem zd_L_law_282 : decode zb_L_law 282 = .ok (.iload 4, 2) := by decide +kernel
theorem zd_L_law_284 : decode zb_L_law 284 = .ok (.iconst 1, 1) := by decide +kernel
theorem zd_L_law_285 : decode zb_L_law 285 = .ok (.iadd, 1) := by decide +kernel
theorem zd_L_law_286 : decode zb_L_law 286 = .ok (.iaload, 1) := by decide +kernel
theorem zd_L_law_287 : decode zb_L_law 287 = .ok (.aload_n 0, 1) := by decide +kernel
theorem zd_L_law_288 : decode zb_L_law 288 = .ok (.iload 4, 2) := by decide +kernel
theorem zd_L_law_290 : decode zb_L_law 290 = .ok (.iconst 2, 1) := by decide +kernel
theorem zd_L_law_291 : decode zb_L_law 291 = .ok (.iadd, 1) := by decide +kernel
theorem zd_L_law_292 : decode zb_L_law 292 = .ok (.iaload, 1) := by decide +kernel
theorem zd_L_law_293 : decode zb_L_law 293 = .ok (.i2l, 1) := by decide +kernel
theorem zd_L_law_294 : decode zb_L_law 294 = .ok (.bipush 32, 2) := by decide +kernel
theorem zd_L_law_296 : decode zb_L_law 296 = .ok (.lshl, 1) := by decide +kernel
theorem zd_L_law_297 : decode zb_L_law 297 = .ok (.aload_n 0, 1) := by decide +kernel
theorem zd_L_law_298 : decode zb_L_law 298 = .ok (.iload 4, 2) := by decide +kernel
theorem zd_L_law_300 : decode zb_L_law 300 = .ok (.iconst 3, 1) := by decide +kernel
theorem zd_L_law_301 : decode zb_L_law 301 = .ok (.iadd, 1) := by decide +kernel
theorem zd_L_law_302 : decode zb_L_law 302 = .ok (.iaload, 1) := by decide +kernel
theorem zd_L_law_303 : decode zb_L_law 303 = .ok (.i2l, 1) := by decide +kernel
theorem zd_L_law_304 : decode zb_L_law 304 = .ok (.ldc2_w 21, 3) := by decide +kernel
theorem zd_L_law_307 : decode zb_L_law 307 = .ok (.land, 1) := by decide +kernel
theorem zd_L_law_308 : decode zb_L_law 308 = .ok (.lor, 1) := by decide +kernel
theorem zd_L_law_309 : decode zb_L_law 309 = .ok (.aload_n 0, 1) := by decide +kernel
theorem zd_L_law_310 : decode zb_L_law 310 = .ok (.iload 4, 2) := by decide +kernel
theorem zd_L_law_312 : decode zb_L_law 312 = .ok (.iconst 4, 1) := by decide +kernel
theorem zd_L_law_313 : decode zb_L_law 313 = .ok (.iadd, 1) := by decide +kernel
theorem zd_L_law_314 : decode zb_L_law 314 = .ok (.iaload, 1) := by decide +kernel
theorem zd_L_law_315 : decode zb_L_law 315 = .ok (.invokevirtual 42, 3) := by decide +kernel
theorem zd_L_law_318 : decode zb_L_law 318 = .ok (.aload_n 2, 1) := by decide +kernel
theorem zd_L_law_319 : decode zb_L_law 319 = .ok (.aload_n 0, 1) := by decide +kernel
theorem zd_L_law_320 : decode zb_L_law 320 = .ok (.iload 4, 2) := by decide +kernel
theorem zd_L_law_322 : decode zb_L_law 322 = .ok (.iconst 1, 1) := by decide +kernel
theorem zd_L_law_323 : decode zb_L_law 323 = .ok (.iadd, 1) := by decide +kernel
theorem zd_L_law_324 : decode zb_L_law 324 = .ok (.iaload, 1) := by decide +kernel
theorem zd_L_law_325 : decode zb_L_law 325 = .ok (.aload_n 0, 1) := by decide +kernel
theorem zd_L_law_326 : decode zb_L_law 326 = .ok (.iload 4, 2) := by decide +kernel
theorem zd_L_law_328 : decode zb_L_law 328 = .ok (.iconst 2, 1) := by decide +kernel
theorem zd_L_law_329 : decode zb_L_law 329 = .ok (.iadd, 1) := by decide +kernel
theorem zd_L_law_330 : decode zb_L_law 330 = .ok (.iaload, 1) := by decide +kernel
theorem zd_L_law_331 : decode zb_L_law 331 = .ok (.i2l, 1) := by decide +kernel
theorem zd_L_law_332 : decode zb_L_law 332 = .ok (.bipush 32, 2) := by decide +kernel
theorem zd_L_law_334 : decode zb_L_law 334 = .ok (.lshl, 1) := by decide +kernel
theorem zd_L_law_335 : decode zb_L_law 335 = .ok (.aload_n 0, 1) := by decide +kernel
theorem zd_L_law_336 : decode zb_L_law 336 = .ok (.iload 4, 2) := by decide +kernel
theorem zd_L_law_338 : decode zb_L_law 338 = .ok (.iconst 3, 1) := by decide +kernel
theorem zd_L_law_339 : decode zb_L_law 339 = .ok (.iadd, 1) := by decide +kernel
theorem zd_L_law_340 : decode zb_L_law 340 = .ok (.iaload, 1) := by decide +kernel
theorem zd_L_law_341 : decode zb_L_law 341 = .ok (.i2l, 1) := by decide +kernel
theorem zd_L_law_342 : decode zb_L_law 342 = .ok (.ldc2_w 21, 3) := by decide +kernel
theorem zd_L_law_345 : decode zb_L_law 345 = .ok (.land, 1) := by decide +kernel
theorem zd_L_law_346 : decode zb_L_law 346 = .ok (.lor, 1) := by decide +kernel
theorem zd_L_law_347 : decode zb_L_law 347 = .ok (.aload_n 0, 1) := by decide +kernel
theorem zd_L_law_348 : decode zb_L_law 348 = .ok (.iload 4, 2) := by decide +kernel
theorem zd_L_law_350 : decode zb_L_law 350 = .ok (.iconst 4, 1) := by decide +kernel
theorem zd_L_law_351 : decode zb_L_law 351 = .ok (.iadd, 1) := by decide +kernel
theorem zd_L_law_352 : decode zb_L_law 352 = .ok (.iaload, 1) := by decide +kernel
theorem zd_L_law_353 : decode zb_L_law 353 = .ok (.invokevirtual 46, 3) := by decide +kernel
theorem zd_L_law_356 : decode zb_L_law 356 = .ok (.if_icmp .eq 404, 3) := by decide +kernel
theorem zd_L_law_359 : decode zb_L_law 359 = .ok (.iconst 0, 1) := by decide +kernel
theorem zd_L_law_360 : decode zb_L_law 360 = .ok (.ireturn, 1) := by decide +kernel
theorem zd_L_law_361 : decode zb_L_law 361 = .ok (.aload_n 1, 1) := by decide +kernel
theorem zd_L_law_362 : decode zb_L_law 362 = .ok (.aload_n 0, 1) := by decide +kernel
theorem zd_L_law_363 : decode zb_L_law 363 = .ok (.iload 4, 2) := by decide +kernel
theorem zd_L_law_365 : decode zb_L_law 365 = .ok (.iconst 1, 1) := by decide +kernel
theorem zd_L_law_366 : decode zb_L_law 366 = .ok (.iadd, 1) := by decide +kernel
theorem zd_L_law_367 : decode zb_L_law 367 = .ok (.iaload, 1) := by decide +kernel
theorem zd_L_law_368 : decode zb_L_law 368 = .ok (.aload_n 0, 1) := by decide +kernel
theorem zd_L_law_369 : decode zb_L_law 369 = .ok (.iload 4, 2) := by decide +kernel
theorem zd_L_law_371 : decode zb_L_law 371 = .ok (.iconst 2, 1) := by decide +kernel
theorem zd_L_law_372 : decode zb_L_law 372 = .ok (.iadd, 1) := by decide +kernel
theorem zd_L_law_373 : decode zb_L_law 373 = .ok (.iaload, 1) := by decide +kernel
theorem zd_L_law_374 : decode zb_L_law 374 = .ok (.aload_n 0, 1) := by decide +kernel
theorem zd_L_law_375 : decode zb_L_law 375 = .ok (.iload 4, 2) := by decide +kernel
theorem zd_L_law_377 : decode zb_L_law 377 = .ok (.iconst 3, 1) := by decide +kernel
theorem zd_L_law_378 : decode zb_L_law 378 = .ok (.iadd, 1) := by decide +kernel
theorem zd_L_law_379 : decode zb_L_law 379 = .ok (.iaload, 1) := by decide +kernel
theorem zd_L_law_380 : decode zb_L_law 380 = .ok (.aload_n 0, 1) := by decide +kernel
theorem zd_L_law_381 : decode zb_L_law 381 = .ok (.iload 4, 2) := by decide +kernel
theorem zd_L_law_383 : decode zb_L_law 383 = .ok (.iconst 4, 1) := by decide +kernel
theorem zd_L_law_384 : decode zb_L_law 384 = .ok (.iadd, 1) := by decide +kernel
theorem zd_L_law_385 : decode zb_L_law 385 = .ok (.iaload, 1) := by decide +kernel
theorem zd_L_law_386 : decode zb_L_law 386 = .ok (.aload_n 0, 1) := by decide +kernel
theorem zd_L_law_387 : decode zb_L_law 387 = .ok (.iload 4, 2) := by decide +kernel
theorem zd_L_law_389 : decode zb_L_law 389 = .ok (.iconst 5, 1) := by decide +kernel
theorem zd_L_law_390 : decode zb_L_law 390 = .ok (.iadd, 1) := by decide +kernel
theorem zd_L_law_391 : decode zb_L_law 391 = .ok (.iaload, 1) := by decide +kernel
theorem zd_L_law_392 : decode zb_L_law 392 = .ok (.invokevirtual 47, 3) := by decide +kernel
theorem zd_L_law_395 : decode zb_L_law 395 = .ok (.aload_n 2, 1) := by decide +kernel
theorem zd_L_law_396 : decode zb_L_law 396 = .ok (.aload_n 0, 1) := by decide +kernel
theorem zd_L_law_397 : decode zb_L_law 397 = .ok (.iload 4, 2) := by decide +kernel
theorem zd_L_law_399 : decode zb_L_law 399 = .ok (.iconst 1, 1) := by decide +kernel
theorem zd_L_law_400 : decode zb_L_law 400 = .ok (.iadd, 1) := by decide +kernel
theorem zd_L_law_401 : decode zb_L_law 401 = .ok (.iaload, 1) := by decide +kernel
theorem zd_L_law_402 : decode zb_L_law 402 = .ok (.aload_n 0, 1) := by decide +kernel
theorem zd_L_law_403 : decode zb_L_law 403 = .ok (.iload 4, 2) := by decide +kernel
theorem zd_L_law_405 : decode zb_L_law 405 = .ok (.iconst 2, 1) := by decide +kernel
theorem zd_L_law_406 : decode zb_L_law 406 = .ok (.iadd, 1) := by decide +kernel
theorem zd_L_law_407 : decode zb_L_law 407 = .ok (.iaload, 1) := by decide +kernel
theorem zd_L_law_408 : decode zb_L_law 408 = .ok (.aload_n 0, 1) := by decide +kernel
theorem zd_L_law_409 : decode zb_L_law 409 = .ok (.iload 4, 2) := by decide +kernel
theorem zd_L_law_411 : decode zb_L_law 411 = .ok (.iconst 3, 1) := by decide +kernel
theorem zd_L_law_412 : decode zb_L_law 412 = .ok (.iadd, 1) := by decide +kernel
theorem zd_L_law_413 : decode zb_L_law 413 = .ok (.iaload, 1) := by decide +kernel
theorem zd_L_law_414 : decode zb_L_law 414 = .ok (.aload_n 0, 1) := by decide +kernel
theorem zd_L_law_415 : decode zb_L_law 415 = .ok (.iload 4, 2) := by decide +kernel
theorem zd_L_law_417 : decode zb_L_law 417 = .ok (.iconst 4, 1) := by decide +kernel
theorem zd_L_law_418 : decode zb_L_law 418 = .ok (.iadd, 1) := by decide +kernel
theorem zd_L_law_419 : decode zb_L_law 419 = .ok (.iaload, 1) := by decide +kernel
theorem zd_L_law_420 : decode zb_L_law 420 = .ok (.aload_n 0, 1) := by decide +kernel
theorem zd_L_law_421 : decode zb_L_law 421 = .ok (.iload 4, 2) := by decide +kernel
theorem zd_L_law_423 : decode zb_L_law 423 = .ok (.iconst 5, 1) := by decide +kernel
theorem zd_L_law_424 : decode zb_L_law 424 = .ok (.iadd, 1) := by decide +kernel
theorem zd_L_law_425 : decode zb_L_law 425 = .ok (.iaload, 1) := by decide +kernel
theorem zd_L_law_426 : decode zb_L_law 426 = .ok (.invokevirtual 51, 3) := by decide +kernel
theorem zd_L_law_429 : decode zb_L_law 429 = .ok (.if_icmp .eq 331, 3) := by decide +kernel
theorem zd_L_law_432 : decode zb_L_law 432 = .ok (.iconst 0, 1) := by decide +kernel
theorem zd_L_law_433 : decode zb_L_law 433 = .ok (.ireturn, 1) := by decide +kernel
theorem zd_L_law_434 : decode zb_L_law 434 = .ok (.aload_n 1, 1) := by decide +kernel
theorem zd_L_law_435 : decode zb_L_law 435 = .ok (.aload_n 0, 1) := by decide +kernel
theorem zd_L_law_436 : decode zb_L_law 436 = .ok (.iload 4, 2) := by decide +kernel
theorem zd_L_law_438 : decode zb_L_law 438 = .ok (.iconst 1, 1) := by decide +kernel
theorem zd_L_law_439 : decode zb_L_law 439 = .ok (.iadd, 1) := by decide +kernel
theorem zd_L_law_440 : decode zb_L_law 440 = .ok (.iaload, 1) := by decide +kernel
theorem zd_L_law_441 : decode zb_L_law 441 = .ok (.aload_n 0, 1) := by decide +kernel
theorem zd_L_law_442 : decode zb_L_law 442 = .ok (.iload 4, 2) := by decide +kernel
theorem zd_L_law_444 : decode zb_L_law 444 = .ok (.iconst 2, 1) := by decide +kernel
theorem zd_L_law_445 : decode zb_L_law 445 = .ok (.iadd, 1) := by decide +kernel
theorem zd_L_law_446 : decode zb_L_law 446 = .ok (.iaload, 1) := by decide +kernel
theorem zd_L_law_447 : decode zb_L_law 447 = .ok (.invokevirtual 52, 3) := by decide +kernel
theorem zd_L_law_450 : decode zb_L_law 450 = .ok (.aload_n 2, 1) := by decide +kernel
theorem zd_L_law_451 : decode zb_L_law 451 = .ok (.aload_n 0, 1) := by decide +kernel
theorem zd_L_law_452 : decode zb_L_law 452 = .ok (.iload 4, 2) := by decide +kernel
theorem zd_L_law_454 : decode zb_L_law 454 = .ok (.iconst 1, 1) := by decide +kernel
theorem zd_L_law_455 : decode zb_L_law 455 = .ok (.iadd, 1) := by decide +kernel
theorem zd_L_law_456 : decode zb_L_law 456 = .ok (.iaload, 1) := by decide +kernel
theorem zd_L_law_457 : decode zb_L_law 457 = .ok (.aload_n 0, 1) := by decide +kernel
theorem zd_L_law_458 : decode zb_L_law 458 = .ok (.iload 4, 2) := by decide +kernel
theorem zd_L_law_460 : decode zb_L_law 460 = .ok (.iconst 2, 1) := by decide +kernel
theorem zd_L_law_461 : decode zb_L_law 461 = .ok (.iadd, 1) := by decide +kernel
theorem zd_L_law_462 : decode zb_L_law 462 = .ok (.iaload, 1) := by decide +kernel
theorem zd_L_law_463 : decode zb_L_law 463 = .ok (.invokevirtual 56, 3) := by decide +kernel
theorem zd_L_law_466 : decode zb_L_law 466 = .ok (.if_icmp .eq 294, 3) := by decide +kernel
theorem zd_L_law_469 : decode zb_L_law 469 = .ok (.iconst 0, 1) := by decide +kernel
theorem zd_L_law_470 : decode zb_L_law 470 = .ok (.ireturn, 1) := by decide +kernel
theorem zd_L_law_471 : decode zb_L_law 471 = .ok (.aload_n 1, 1) := by decide +kernel
theorem zd_L_law_472 : decode zb_L_law 472 = .ok (.aload_n 0, 1) := by decide +kernel
theorem zd_L_law_473 : decode zb_L_law 473 = .ok (.iload 4, 2) := by decide +kernel
theorem zd_L_law_475 : decode zb_L_law 475 = .ok (.iconst 1, 1) := by decide +kernel
theorem zd_L_law_476 : decode zb_L_law 476 = .ok (.iadd, 1) := by decide +kernel
theorem zd_L_law_477 : decode zb_L_law 477 = .ok (.iaload, 1) := by decide +kernel
theorem zd_L_law_478 : decode zb_L_law 478 = .ok (.aload_n 0, 1) := by decide +kernel
theorem zd_L_law_479 : decode zb_L_law 479 = .ok (.iload 4, 2) := by decide +kernel
theorem zd_L_law_481 : decode zb_L_law 481 = .ok (.iconst 2, 1) := by decide +kernel
theorem zd_L_law_482 : decode zb_L_law 482 = .ok (.iadd, 1) := by decide +kernel
theorem zd_L_law_483 : decode zb_L_law 483 = .ok (.iaload, 1) := by decide +kernel
theorem zd_L_law_484 : decode zb_L_law 484 = .ok (.aload_n 0, 1) := by decide +kernel
theorem zd_L_law_485 : decode zb_L_law 485 = .ok (.iload 4, 2) := by decide +kernel
theorem zd_L_law_487 : decode zb_L_law 487 = .ok (.iconst 3, 1) := by decide +kernel
theorem zd_L_law_488 : decode zb_L_law 488 = .ok (.iadd, 1) := by decide +kernel
theorem zd_L_law_489 : decode zb_L_law 489 = .ok (.iaload, 1) := by decide +kernel
theorem zd_L_law_490 : decode zb_L_law 490 = .ok (.invokevirtual 57, 3) := by decide +kernel
theorem zd_L_law_493 : decode zb_L_law 493 = .ok (.aload_n 2, 1) := by decide +kernel
theorem zd_L_law_494 : decode zb_L_law 494 = .ok (.aload_n 0, 1) := by decide +kernel
theorem zd_L_law_495 : decode zb_L_law 495 = .ok (.iload 4, 2) := by decide +kernel
theorem zd_L_law_497 : decode zb_L_law 497 = .ok (.iconst 1, 1) := by decide +kernel
theorem zd_L_law_498 : decode zb_L_law 498 = .ok (.iadd, 1) := by decide +kernel
theorem zd_L_law_499 : decode zb_L_law 499 = .ok (.iaload, 1) := by decide +kernel
theorem zd_L_law_500 : decode zb_L_law 500 = .ok (.aload_n 0, 1) := by decide +kernel
theorem zd_L_law_501 : decode zb_L_law 501 = .ok (.iload 4, 2) := by decide +kernel
theorem zd_L_law_503 : decode zb_L_law 503 = .ok (.iconst 2, 1) := by decide +kernel
theorem zd_L_law_504 : decode zb_L_law 504 = .ok (.iadd, 1) := by decide +kernel
theorem zd_L_law_505 : decode zb_L_law 505 = .ok (.iaload, 1) := by decide +kernel
theorem zd_L_law_506 : decode zb_L_law 506 = .ok (.aload_n 0, 1) := by decide +kernel
theorem zd_L_law_507 : decode zb_L_law 507 = .ok (.iload 4, 2) := by decide +kernel
theorem zd_L_law_509 : decode zb_L_law 509 = .ok (.iconst 3, 1) := by decide +kernel
theorem zd_L_law_510 : decode zb_L_law 510 = .ok (.iadd, 1) := by decide +kernel
theorem zd_L_law_511 : decode zb_L_law 511 = .ok (.iaload, 1) := by decide +kernel
theorem zd_L_law_512 : decode zb_L_law 512 = .ok (.invokevirtual 61, 3) := by decide +kernel
theorem zd_L_law_515 : decode zb_L_law 515 = .ok (.if_icmp .eq 245, 3) := by decide +kernel
theorem zd_L_law_518 : decode zb_L_law 518 = .ok (.iconst 0, 1) := by decide +kernel
theorem zd_L_law_519 : decode zb_L_law 519 = .ok (.ireturn, 1) := by decide +kernel
theorem zd_L_law_520 : decode zb_L_law 520 = .ok (.aload_n 1, 1) := by decide +kernel
theorem zd_L_law_521 : decode zb_L_law 521 = .ok (.aload_n 0, 1) := by decide +kernel
theorem zd_L_law_522 : decode zb_L_law 522 = .ok (.iload 4, 2) := by decide +kernel
theorem zd_L_law_524 : decode zb_L_law 524 = .ok (.iconst 1, 1) := by decide +kernel
theorem zd_L_law_525 : decode zb_L_law 525 = .ok (.iadd, 1) := by decide +kernel
theorem zd_L_law_526 : decode zb_L_law 526 = .ok (.iaload, 1) := by decide +kernel
theorem zd_L_law_527 : decode zb_L_law 527 = .ok (.invokevirtual 62, 3) := by decide +kernel
theorem zd_L_law_530 : decode zb_L_law 530 = .ok (.aload_n 2, 1) := by decide +kernel
theorem zd_L_law_531 : decode zb_L_law 531 = .ok (.aload_n 0, 1) := by decide +kernel
theorem zd_L_law_532 : decode zb_L_law 532 = .ok (.iload 4, 2) := by decide +kernel
theorem zd_L_law_534 : decode zb_L_law 534 = .ok (.iconst 1, 1) := by decide +kernel
theorem zd_L_law_535 : decode zb_L_law 535 = .ok (.iadd, 1) := by decide +kernel
theorem zd_L_law_536 : decode zb_L_law 536 = .ok (.iaload, 1) := by decide +kernel
theorem zd_L_law_537 : decode zb_L_law 537 = .ok (.invokevirtual 65, 3) := by decide +kernel
theorem zd_L_law_540 : decode zb_L_law 540 = .ok (.if_icmp .eq 220, 3) := by decide +kernel
theorem zd_L_law_543 : decode zb_L_law 543 = .ok (.iconst 0, 1) := by decide +kernel
theorem zd_L_law_544 : decode zb_L_law 544 = .ok (.ireturn, 1) := by decide +kernel
theorem zd_L_law_545 : decode zb_L_law 545 = .ok (.aload_n 1, 1) := by decide +kernel
theorem zd_L_law_546 : decode zb_L_law 546 = .ok (.aload_n 0, 1) := by decide +kernel
theorem zd_L_law_547 : decode zb_L_law 547 = .ok (.iload 4, 2) := by decide +kernel
theorem zd_L_law_549 : decode zb_L_law 549 = .ok (.iconst 1, 1) := by decide +kernel
theorem zd_L_law_550 : decode zb_L_law 550 = .ok (.iadd, 1) := by decide +kernel
theorem zd_L_law_551 : decode zb_L_law 551 = .ok (.iaload, 1) := by decide +kernel
theorem zd_L_law_552 : decode zb_L_law 552 = .ok (.aload_n 0, 1) := by decide +kernel
theorem zd_L_law_553 : decode zb_L_law 553 = .ok (.iload 4, 2) := by decide +kernel
theorem zd_L_law_555 : decode zb_L_law 555 = .ok (.iconst 2, 1) := by decide +kernel
theorem zd_L_law_556 : decode zb_L_law 556 = .ok (.iadd, 1) := by decide +kernel
theorem zd_L_law_557 : decode zb_L_law 557 = .ok (.iaload, 1) := by decide +kernel
theorem zd_L_law_558 : decode zb_L_law 558 = .ok (.aload_n 0, 1) := by decide +kernel
theorem zd_L_law_559 : decode zb_L_law 559 = .ok (.iload 4, 2) := by decide +kernel
theorem zd_L_law_561 : decode zb_L_law 561 = .ok (.iconst 3, 1) := by decide +kernel
theorem zd_L_law_562 : decode zb_L_law 562 = .ok (.iadd, 1) := by decide +kernel
theorem zd_L_law_563 : decode zb_L_law 563 = .ok (.iaload, 1) := by decide +kernel
theorem zd_L_law_564 : decode zb_L_law 564 = .ok (.invokevirtual 66, 3) := by decide +kernel
theorem zd_L_law_567 : decode zb_L_law 567 = .ok (.aload_n 2, 1) := by decide +kernel
theorem zd_L_law_568 : decode zb_L_law 568 = .ok (.aload_n 0, 1) := by decide +kernel
theorem zd_L_law_569 : decode zb_L_law 569 = .ok (.iload 4, 2) := by decide +kernel
theorem zd_L_law_571 : decode zb_L_law 571 = .ok (.iconst 1, 1) := by decide +kernel
theorem zd_L_law_572 : decode zb_L_law 572 = .ok (.iadd, 1) := by decide +kernel
theorem zd_L_law_573 : decode zb_L_law 573 = .ok (.iaload, 1) := by decide +kernel
theorem zd_L_law_574 : decode zb_L_law 574 = .ok (.aload_n 0, 1) := by decide +kernel
theorem zd_L_law_575 : decode zb_L_law 575 = .ok (.iload 4, 2) := by decide +kernel
theorem zd_L_law_577 : decode zb_L_law 577 = .ok (.iconst 2, 1) := by decide +kernel
theorem zd_L_law_578 : decode zb_L_law 578 = .ok (.iadd, 1) := by decide +kernel
theorem zd_L_law_579 : decode zb_L_law 579 = .ok (.iaload, 1) := by decide +kernel
theorem zd_L_law_580 : decode zb_L_law 580 = .ok (.aload_n 0, 1) := by decide +kernel
theorem zd_L_law_581 : decode zb_L_law 581 = .ok (.iload 4, 2) := by decide +kernel
theorem zd_L_law_583 : decode zb_L_law 583 = .ok (.iconst 3, 1) := by decide +kernel
theorem zd_L_law_584 : decode zb_L_law 584 = .ok (.iadd, 1) := by decide +kernel
theorem zd_L_law_585 : decode zb_L_law 585 = .ok (.iaload, 1) := by decide +kernel
theorem zd_L_law_586 : decode zb_L_law 586 = .ok (.invokevirtual 69, 3) := by decide +kernel
theorem zd_L_law_589 : decode zb_L_law 589 = .ok (.if_icmp .eq 171, 3) := by decide +kernel
theorem zd_L_law_592 : decode zb_L_law 592 = .ok (.iconst 0, 1) := by decide +kernel
theorem zd_L_law_593 : decode zb_L_law 593 = .ok (.ireturn, 1) := by decide +kernel
theorem zd_L_law_594 : decode zb_L_law 594 = .ok (.aload_n 1, 1) := by decide +kernel
theorem zd_L_law_595 : decode zb_L_law 595 = .ok (.aload_n 0, 1) := by decide +kernel
theorem zd_L_law_596 : decode zb_L_law 596 = .ok (.iload 4, 2) := by decide +kernel
theorem zd_L_law_598 : decode zb_L_law 598 = .ok (.iconst 1, 1) := by decide +kernel
theorem zd_L_law_599 : decode zb_L_law 599 = .ok (.iadd, 1) := by decide +kernel
theorem zd_L_law_600 : decode zb_L_law 600 = .ok (.iaload, 1) := by decide +kernel
theorem zd_L_law_601 : decode zb_L_law 601 = .ok (.aload_n 0, 1) := by decide +kernel
theorem zd_L_law_602 : decode zb_L_law 602 = .ok (.iload 4, 2) := by decide +kernel
theorem zd_L_law_604 : decode zb_L_law 604 = .ok (.iconst 2, 1) := by decide +kernel
theorem zd_L_law_605 : decode zb_L_law 605 = .ok (.iadd, 1) := by decide +kernel
theorem zd_L_law_606 : decode zb_L_law 606 = .ok (.iaload, 1) := by decide +kernel
theorem zd_L_law_607 : decode zb_L_law 607 = .ok (.aload_n 0, 1) := by decide +kernel
theorem zd_L_law_608 : decode zb_L_law 608 = .ok (.iload 4, 2) := by decide +kernel
theorem zd_L_law_610 : decode zb_L_law 610 = .ok (.iconst 3, 1) := by decide +kernel
theorem zd_L_law_611 : decode zb_L_law 611 = .ok (.iadd, 1) := by decide +kernel
theorem zd_L_law_612 : decode zb_L_law 612 = .ok (.iaload, 1) := by decide +kernel
theorem zd_L_law_613 : decode zb_L_law 613 = .ok (.aload_n 3, 1) := by decide +kernel
theorem zd_L_law_614 : decode zb_L_law 614 = .ok (.invokestatic 70, 3) := by decide +kernel
theorem zd_L_law_617 : decode zb_L_law 617 = .ok (.istore 5, 2) := by decide +kernel
theorem zd_L_law_619 : decode zb_L_law 619 = .ok (.aload_n 2, 1) := by decide +kernel
theorem zd_L_law_620 : decode zb_L_law 620 = .ok (.aload_n 0, 1) := by decide +kernel
theorem zd_L_law_621 : decode zb_L_law 621 = .ok (.iload 4, 2) := by decide +kernel
theorem zd_L_law_623 : decode zb_L_law 623 = .ok (.iconst 1, 1) := by decide +kernel
theorem zd_L_law_624 : decode zb_L_law 624 = .ok (.iadd, 1) := by decide +kernel
theorem zd_L_law_625 : decode zb_L_law 625 = .ok (.iaload, 1) := by decide +kernel
theorem zd_L_law_626 : decode zb_L_law 626 = .ok (.aload_n 0, 1) := by decide +kernel
theorem zd_L_law_627 : decode zb_L_law 627 = .ok (.iload 4, 2) := by decide +kernel
theorem zd_L_law_629 : decode zb_L_law 629 = .ok (.iconst 2, 1) := by decide +kernel
theorem zd_L_law_630 : decode zb_L_law 630 = .ok (.iadd, 1) := by decide +kernel
theorem zd_L_law_631 : decode zb_L_law 631 = .ok (.iaload, 1) := by decide +kernel
theorem zd_L_law_632 : decode zb_L_law 632 = .ok (.aload_n 0, 1) := by decide +kernel
theorem zd_L_law_633 : decode zb_L_law 633 = .ok (.iload 4, 2) := by decide +kernel
theorem zd_L_law_635 : decode zb_L_law 635 = .ok (.iconst 3, 1) := by decide +kernel
theorem zd_L_law_636 : decode zb_L_law 636 = .ok (.iadd, 1) := by decide +kernel
theorem zd_L_law_637 : decode zb_L_law 637 = .ok (.iaload, 1) := by decide +kernel
theorem zd_L_law_638 : decode zb_L_law 638 = .ok (.invokevirtual 75, 3) := by decide +kernel
theorem zd_L_law_641 : decode zb_L_law 641 = .ok (.lstore 6, 2) := by decide +kernel
theorem zd_L_law_643 : decode zb_L_law 643 = .ok (.aload_n 2, 1) := by decide +kernel
theorem zd_L_law_644 : decode zb_L_law 644 = .ok (.invokevirtual 76, 3) := by decide +kernel
theorem zd_L_law_647 : decode zb_L_law 647 = .ok (.iload 5, 2) := by decide +kernel
theorem zd_L_law_649 : decode zb_L_law 649 = .ok (.if_icmp .eq 5, 3) := by decide +kernel
theorem zd_L_law_652 : decode zb_L_law 652 = .ok (.iconst 0, 1) := by decide +kernel
theorem zd_L_law_653 : decode zb_L_law 653 = .ok (.ireturn, 1) := by decide +kernel
theorem zd_L_law_654 : decode zb_L_law 654 = .ok (.iload 5, 2) := by decide +kernel
theorem zd_L_law_656 : decode zb_L_law 656 = .ok (.ifCond .ne 14, 3) := by decide +kernel
theorem zd_L_law_659 : decode zb_L_law 659 = .ok (.aload_n 3, 1) := by decide +kernel
theorem zd_L_law_660 : decode zb_L_law 660 = .ok (.iconst 0, 1) := by decide +kernel
theorem zd_L_law_661 : decode zb_L_law 661 = .ok (.laload, 1) := by decide +kernel
theorem zd_L_law_662 : decode zb_L_law 662 = .ok (.lload 6, 2) := by decide +kernel
theorem zd_L_law_664 : decode zb_L_law 664 = .ok (.lcmp, 1) := by decide +kernel
theorem zd_L_law_665 : decode zb_L_law 665 = .ok (.ifCond .eq 5, 3) := by decide +kernel
theorem zd_L_law_668 : decode zb_L_law 668 = .ok (.iconst 0, 1) := by decide +kernel
theorem zd_L_law_669 : decode zb_L_law 669 = .ok (.ireturn, 1) := by decide +kernel
theorem zd_L_law_670 : decode zb_L_law 670 = .ok (.goto 90, 3) := by decide +kernel
theorem zd_L_law_673 : decode zb_L_law 673 = .ok (.aload_n 1, 1) := by decide +kernel
theorem zd_L_law_674 : decode zb_L_law 674 = .ok (.aload_n 0, 1) := by decide +kernel
theorem zd_L_law_675 : decode zb_L_law 675 = .ok (.iload 4, 2) := by decide +kernel
theorem zd_L_law_677 : decode zb_L_law 677 = .ok (.iconst 1, 1) := by decide +kernel
theorem zd_L_law_678 : decode zb_L_law 678 = .ok (.iadd, 1) := by decide +kernel
theorem zd_L_law_679 : decode zb_L_law 679 = .ok (.iaload, 1) := by decide +kernel
theorem zd_L_law_680 : decode zb_L_law 680 = .ok (.aload_n 0, 1) := by decide +kernel
theorem zd_L_law_681 : decode zb_L_law 681 = .ok (.iload 4, 2) := by decide +kernel
theorem zd_L_law_683 : decode zb_L_law 683 = .ok (.iconst 2, 1) := by decide +kernel
theorem zd_L_law_684 : decode zb_L_law 684 = .ok (.iadd, 1) := by decide +kernel
theorem zd_L_law_685 : decode zb_L_law 685 = .ok (.iaload, 1) := by decide +kernel
theorem zd_L_law_686 : decode zb_L_law 686 = .ok (.invokevirtual 80, 3) := by decide +kernel
theorem zd_L_law_689 : decode zb_L_law 689 = .ok (.aload_n 2, 1) := by decide +kernel
theorem zd_L_law_690 : decode zb_L_law 690 = .ok (.aload_n 0, 1) := by decide +kernel
theorem zd_L_law_691 : decode zb_L_law 691 = .ok (.iload 4, 2) := by decide +kernel
theorem zd_L_law_693 : decode zb_L_law 693 = .ok (.iconst 1, 1) := by decide +kernel
theorem zd_L_law_694 : decode zb_L_law 694 = .ok (.iadd, 1) := by decide +kernel
theorem zd_L_law_695 : decode zb_L_law 695 = .ok (.iaload, 1) := by decide +kernel
theorem zd_L_law_696 : decode zb_L_law 696 = .ok (.aload_n 0, 1) := by decide +kernel
theorem zd_L_law_697 : decode zb_L_law 697 = .ok (.iload 4, 2) := by decide +kernel
theorem zd_L_law_699 : decode zb_L_law 699 = .ok (.iconst 2, 1) := by decide +kernel
theorem zd_L_law_700 : decode zb_L_law 700 = .ok (.iadd, 1) := by decide +kernel
theorem zd_L_law_701 : decode zb_L_law 701 = .ok (.iaload, 1) := by decide +kernel
theorem zd_L_law_702 : decode zb_L_law 702 = .ok (.invokevirtual 83, 3) := by decide +kernel
theorem zd_L_law_705 : decode zb_L_law 705 = .ok (.if_icmp .eq 55, 3) := by decide +kernel
theorem zd_L_law_708 : decode zb_L_law 708 = .ok (.iconst 0, 1) := by decide +kernel
theorem zd_L_law_709 : decode zb_L_law 709 = .ok (.ireturn, 1) := by decide +kernel
theorem zd_L_law_710 : decode zb_L_law 710 = .ok (.aload_n 1, 1) := by decide +kernel
theorem zd_L_law_711 : decode zb_L_law 711 = .ok (.invokevirtual 84, 3) := by decide +kernel
theorem zd_L_law_714 : decode zb_L_law 714 = .ok (.aload_n 2, 1) := by decide +kernel
theorem zd_L_law_715 : decode zb_L_law 715 = .ok (.invokevirtual 87, 3) := by decide +kernel
theorem zd_L_law_718 : decode zb_L_law 718 = .ok (.if_icmp .eq 42, 3) := by decide +kernel
theorem zd_L_law_721 : decode zb_L_law 721 = .ok (.iconst 0, 1) := by decide +kernel
theorem zd_L_law_722 : decode zb_L_law 722 = .ok (.ireturn, 1) := by decide +kernel
theorem zd_L_law_723 : decode zb_L_law 723 = .ok (.aload_n 1, 1) := by decide +kernel
theorem zd_L_law_724 : decode zb_L_law 724 = .ok (.aload_n 0, 1) := by decide +kernel
theorem zd_L_law_725 : decode zb_L_law 725 = .ok (.iload 4, 2) := by decide +kernel
theorem zd_L_law_727 : decode zb_L_law 727 = .ok (.iconst 1, 1) := by decide +kernel
theorem zd_L_law_728 : decode zb_L_law 728 = .ok (.iadd, 1) := by decide +kernel
theorem zd_L_law_729 : decode zb_L_law 729 = .ok (.iaload, 1) := by decide +kernel
theorem zd_L_law_730 : decode zb_L_law 730 = .ok (.aload_n 0, 1) := by decide +kernel
theorem zd_L_law_731 : decode zb_L_law 731 = .ok (.iload 4, 2) := by decide +kernel
theorem zd_L_law_733 : decode zb_L_law 733 = .ok (.iconst 2, 1) := by decide +kernel
theorem zd_L_law_734 : decode zb_L_law 734 = .ok (.iadd, 1) := by decide +kernel
theorem zd_L_law_735 : decode zb_L_law 735 = .ok (.iaload, 1) := by decide +kernel
theorem zd_L_law_736 : decode zb_L_law 736 = .ok (.invokevirtual 88, 3) := by decide +kernel
end
section
theorem zd_L_law_739 : decode zb_L_law 739 = .ok (.aload_n 2, 1) := by decide +kernel
theorem zd_L_law_740 : decode zb_L_law 740 = .ok (.aload_n 0, 1) := by decide +kernel
theorem zd_L_law_741 : decode zb_L_law 741 = .ok (.iload 4, 2) := by decide +kernel
theorem zd_L_law_743 : decode zb_L_law 743 = .ok (.iconst 1, 1) := by decide +kernel
theorem zd_L_law_744 : decode zb_L_law 744 = .ok (.iadd, 1) := by decide +kernel
theorem zd_L_law_745 : decode zb_L_law 745 = .ok (.iaload, 1) := by decide +kernel
theorem zd_L_law_746 : decode zb_L_law 746 = .ok (.aload_n 0, 1) := by decide +kernel
theorem zd_L_law_747 : decode zb_L_law 747 = .ok (.iload 4, 2) := by decide +kernel
theorem zd_L_law_749 : decode zb_L_law 749 = .ok (.iconst 2, 1) := by decide +kernel
theorem zd_L_law_750 : decode zb_L_law 750 = .ok (.iadd, 1) := by decide +kernel
theorem zd_L_law_751 : decode zb_L_law 751 = .ok (.iaload, 1) := by decide +kernel
theorem zd_L_law_752 : decode zb_L_law 752 = .ok (.invokevirtual 91, 3) := by decide +kernel
theorem zd_L_law_755 : decode zb_L_law 755 = .ok (.if_icmp .eq 5, 3) := by decide +kernel
theorem zd_L_law_758 : decode zb_L_law 758 = .ok (.iconst 0, 1) := by decide +kernel
theorem zd_L_law_759 : decode zb_L_law 759 = .ok (.ireturn, 1) := by decide +kernel
theorem zd_L_law_760 : decode zb_L_law 760 = .ok (.iinc 4 6, 3) := by decide +kernel
theorem zd_L_law_763 : decode zb_L_law 763 = .ok (.goto (-740), 3) := by decide +kernel
theorem zd_L_law_766 : decode zb_L_law 766 = .ok (.iconst 1, 1) := by decide +kernel
theorem zd_L_law_767 : decode zb_L_law 767 = .ok (.ireturn, 1) := by decide +kernel
end
section
/-! the frame: one world for a whole object with all that it holds; contracts say how a method moves it -/
/-- slots' numbers, and the numbers of int[], long[], boolean[] -/
abbrev zK : Type := va_G × ClassId × ClassId × ClassId
abbrev zty (K : zK) : List (ClassId × FieldType) := [(K.2.1, .int), (K.2.2.1, .long), (K.2.2.2, .boolean)]
abbrev zcl : List vw_C := [(zR_T, zF_T, 7), (zR_A, zF_A, 9), (zR_M, zF_M, 7), (zR_W, zF_W, 4), (zR_R, zF_R, 26)]
def zrm (n : Nat) : Room := { frames := n, cells := 0, slots := 0, locals := 40 * n }
/-- what stays the same through a method's body -/
def zFx (K : zK) (own : String) (cc : ByteArray) (p : Program) (s : State) (m : MethodId) (args : Array Value) (c : Code) : Prop :=
  p.tables.exec = Jvm.exec ∧ c.code = cc ∧ s.vm.findClass own = some m.cls ∧ (∀ w ∈ zW, w.before args s = true) ∧ va_K K.1 zcl (zty K) s
/-- a method's start: its arguments, and a world -/
def zPre (K : zK) (w : va_W) (av : List Value) : Array Value → State → Prop := fun v U => v = av.toArray ∧ va_P K.1 zcl w U.heap ∧ va_K K.1 zcl (zty K) U
/-- its end: what it answers, the world behind it, and nothing else has changed -/
def zPost (K : zK) (A : Nat → Prop) (w : va_W) (o : Option Value) : Array Value → State → Outcome → State → Prop := fun _ st oc t => oc = .returned o ∧ va_P K.1 zcl w t.heap ∧ va_F A st t
/-- the contract: from world w with arguments av it answers o and leaves world w' -/
def zMet (l : Launch) (K : zK) (A : Nat → Prop) (y : MethodName) (ws : List Cond) (n : Nat) (av : List Value) (w w' : va_W) (o : Option Value) : Prop :=
  Met l y ws (zrm n) (zPre K w av) (zPost K A w' o) 0 0 A
theorem zPre_blind {K : zK} {w : va_W} {av : List Value} : FrameBlind (zPre K w av) := by
  intro a U g mk h
  obtain ⟨q0, qP, qK⟩ := h
  exact ⟨q0, qP, va_K.moved (u := U) (U := U.calling g mk a) (Vm.Alike.refl U.vm) qK⟩
theorem z_good {w : Cond} (h : w ∈ zW) : w ∈ zW ∧ ((w.onTables && w.keeps) = true ∨ ∃ ty, w = .arrayClass ty) :=
  ⟨h, good_of_word (List.mem_filter.mp h).2⟩
theorem z_goodV {own C : String} {idx : Nat} {y : MethodName} {c0 : Cond} (h1 : Cond.methodLink own idx y ∈ zW) (h2 : Cond.instanceMethod y ∈ zW) (h3 : Cond.selects C y y ∈ zW) (h4 : Cond.initialized C ∈ zW) (h5 : c0 ∈ zW) : GoodIn zW (wsV own idx C y (c0 :: zW)) := by
  intro w hw
  simp only [wsV, List.cons_append, List.nil_append, List.mem_cons] at hw
  rcases hw with rfl | rfl | rfl | rfl | rfl | hw
  · exact z_good h1
  · exact z_good h2
  · exact z_good h3
  · exact z_good h4
  · exact z_good h5
  · exact z_good hw
theorem z_goodS {own : String} {idx : Nat} {y : MethodName} {c0 : Cond} (h1 : Cond.methodLink own idx y ∈ zW) (h2 : Cond.static y ∈ zW) (h4 : Cond.initialized y.cls ∈ zW) (h5 : c0 ∈ zW) : GoodIn zW (va_wsS own idx y (c0 :: zW)) := by
  intro w hw
  simp only [va_wsS, List.cons_append, List.nil_append, List.mem_cons] at hw
  rcases hw with rfl | rfl | rfl | rfl | hw
  · exact z_good h1
  · exact z_good h2
  · exact z_good h4
  · exact z_good h5
  · exact z_good hw
theorem z_rm {n n' maxL : Nat} (h : n + 1 ≤ n') (h2 : maxL ≤ 21) : (zrm n).frames + 1 ≤ (zrm n').frames ∧ 8 + (maxL + 11) + (zrm n).locals ≤ (zrm n').locals := by
  simp only [zrm]
  omega
section ZF
variable {p : Program} {l : Launch} {e : Env} {R : Room} {s : State} {m : MethodId} {args : Array Value} {below : List Frame} {meth : Method} {c : Code} {H : Heap} {locs : List Loc} {cells slots : Nat} {Q : State → Prop}
variable {K : zK} {own : String} {cc : ByteArray} {pc : Nat} {ls : Array Slot} {rest : List Value} {A : Nat → Prop} {w : va_W} {H0 : Heap}
theorem z_entry {y : MethodName} {maxL n : Nat} {ret : Option FieldType} {av : List Value} {Qc : Array Value → State → Outcome → State → Prop} (hy : plainName y.cls = true) (hn : (lg_sl av).length ≤ maxL)
    (body : ∀ (p : Program) (e : Env) (s : State) (m : MethodId) (below : List Frame) (meth : Method) (c : Code) (ls : Array Slot), zFx K y.cls cc p s m av.toArray c → meth.sig.returnType = ret → c.maxLocals = maxL → meth.locks = false → va_P K.1 zcl w s.heap → lv_has ls maxL (lv_args 0 av) →
      W p l e (zrm n) s m av.toArray below meth c s.heap [] 0 0 (MQ below Qc av.toArray s 0 0 A) (F0 m 0 ls [])) :
    Met l y (Cond.code y cc maxL ret :: zW) (zrm n) (zPre K w av) Qc 0 0 A := by
  refine Met.ofW (cc := cc) (maxL := maxL) (ret := ret) hy rfl ?_
  intro p e s m args below meth c s₁ B hml hv
  obtain ⟨rfl, hP, hK⟩ := hv
  have hts := atoms_spec (ws := Cond.code y cc maxL ret :: zW) B.pre
  have hown : s.vm.findClass y.cls = some m.cls := findClass_of_methodNamed B.named
  have hl := lv_entry av (n := maxL) hn
  rw [lg_entry_eq]
  exact body p e s m below meth c _ ⟨B.exec, B.bytes, hown, fun w hw => hts w (List.mem_cons_of_mem _ hw), hK⟩ B.returns hml B.notSynchronized hP hl
theorem z_iret {v v' : Int32} {w' : va_W} (hx : p.tables.exec = Jvm.exec) (hb : c.code = cc) (hr : meth.sig.returnType = some .int) (hlocks : meth.locks = false) (hv : v = v') (hw : w = w') (hP : va_P K.1 zcl w H) (hS : va_S A s.heap H locs) (hdg : decode cc pc = .ok (.ireturn, 1)) :
    W p l e R s m args below meth c H locs 0 0 (MQ below (zPost K A w' (some (.int v'))) args s 0 0 A) (F0 m pc ls [.int v]) := by
  subst hv; subst hw
  exact W.iret hx hb hr (fun t ht hW => ⟨rfl, by rw [ht]; exact hP, hS.F ht⟩) hS.2.2 hdg
theorem z_zret {v v' : Int32} {w' : va_W} (hx : p.tables.exec = Jvm.exec) (hb : c.code = cc) (hr : meth.sig.returnType = some .boolean) (hlocks : meth.locks = false) (hn : v = 0 ∨ v = 1) (hv : v = v') (hw : w = w') (hP : va_P K.1 zcl w H) (hS : va_S A s.heap H locs) (hdg : decode cc pc = .ok (.ireturn, 1)) :
    W p l e R s m args below meth c H locs 0 0 (MQ below (zPost K A w' (some (.int v'))) args s 0 0 A) (F0 m pc ls [.int v]) := by
  subst hv; subst hw
  exact W.zret hx hb hr (by rcases hn with rfl | rfl <;> rfl) (fun t ht hW => ⟨rfl, by rw [ht]; exact hP, hS.F ht⟩) hS.2.2 hdg
theorem z_lret {v v' : Int64} {w' : va_W} (hx : p.tables.exec = Jvm.exec) (hb : c.code = cc) (hr : meth.sig.returnType = some .long) (hlocks : meth.locks = false) (hv : v = v') (hw : w = w') (hP : va_P K.1 zcl w H) (hS : va_S A s.heap H locs) (hdg : decode cc pc = .ok (.lreturn, 1)) :
    W p l e R s m args below meth c H locs 0 0 (MQ below (zPost K A w' (some (.long v'))) args s 0 0 A) (F0 m pc ls [.long v]) := by
  subst hv; subst hw
  exact W.lret hx hb hr (fun t ht hW => ⟨rfl, by rw [ht]; exact hP, hS.F ht⟩) hS.2.2 hdg
theorem z_vret {w' : va_W} (hx : p.tables.exec = Jvm.exec) (hb : c.code = cc) (hr : meth.sig.returnType = none) (hlocks : meth.locks = false) (hw : w = w') (hP : va_P K.1 zcl w H) (hS : va_S A s.heap H locs) (hdg : decode cc pc = .ok (.return_, 1)) :
    W p l e R s m args below meth c H locs 0 0 (MQ below (zPost K A w' none) args s 0 0 A) (F0 m pc ls []) := by
  subst hw
  exact W.vret hx hb hr (fun t ht hW => ⟨rfl, by rw [ht]; exact hP, hS.F ht⟩) hS.2.2 hdg
/-- the value on top, said otherwise -/
theorem z_top {x y : Int32} (h : x = y) (k : W p l e R s m args below meth c H locs cells slots Q (F0 m pc ls (.int y :: rest))) : W p l e R s m args below meth c H locs cells slots Q (F0 m pc ls (.int x :: rest)) := by rw [h]; exact k
theorem z_topl {x y : Int64} (h : x = y) (k : W p l e R s m args below meth c H locs cells slots Q (F0 m pc ls (.long y :: rest))) : W p l e R s m args below meth c H locs cells slots Q (F0 m pc ls (.long x :: rest)) := by rw [h]; exact k
/-- a field is read -/
theorem z_get (X : zFx K own cc p s m args c) {C : String} {T : u_T} {N ci index q0 a : Nat} {fs : List Value} {v : Value} (hin : ∀ w ∈ u_ws C T N, w ∈ zW) (hP : va_P K.1 zcl w H) (he : w[q0]? = some (a, .inr (ci, fs))) (hc : zcl[ci]? = some (C, T, N)) (k : Nat) (hk : k < N) (hl : Cond.fieldLink own index (T k).1 (T k).2.1 (T k).2.2.1 ∈ zW) (hv : fs[k]? = some v) (hdg : decode cc pc = .ok (.getfield index, 3))
    (kk : W p l e R s m args below meth c H locs cells slots Q (F0 m (pc + 3) ls (v :: rest))) : W p l e R s m args below meth c H locs cells slots Q (F0 m pc ls (.ref a :: rest)) :=
  va_get (D := K.1) (ref := (T k).1) X.1 X.2.1 X.2.2.2.1 hin X.2.2.1 X.2.2.2.2 hP q0 he hc k hk (X.2.2.2.1 _ hl) (fun _ h9 => h9) hv hdg kk
/-- a field that isn't final is written -/
theorem z_put (X : zFx K own cc p s m args c) {C : String} {T : u_T} {N ci index q0 a : Nat} {fs : List Value} {v : Value} {w' : va_W} (ty0 : Nat → FieldType) (hin : ∀ w ∈ u_ws C T N, w ∈ zW) (hty : ∀ k, k < N → parseFieldDescriptor (T k).2.2.1 = some (ty0 k)) (hnm : ∀ a, a < N → ∀ b, b < N → a ≠ b → (T a).2.1 ≠ (T b).2.1) (hP : va_P K.1 zcl w H) (hD : va_D A w) (hS : va_S A H0 H locs) (he : w[q0]? = some (a, .inr (ci, fs))) (hc : zcl[ci]? = some (C, T, N)) (k : Nat) (hk : k < N) (hl : Cond.fieldLink own index (T k).1 (T k).2.1 (T k).2.2.1 ∈ zW) (hfin : (T k).2.2.2 = false) (hn : narrow (ty0 k) v = v) (hfit : fits (ty0 k) v = true) (hlen : k < fs.length) (hw : w.set q0 (a, .inr (ci, fs.set k v)) = w') (hdg : decode cc pc = .ok (.putfield index, 3))
    (kk : ∀ (H1 : Heap) (locs1 : List Loc), va_P K.1 zcl w' H1 → va_S A H0 H1 locs1 → W p l e R s m args below meth c H1 locs1 cells slots Q (F0 m (pc + 3) ls rest)) : W p l e R s m args below meth c H locs cells slots Q (F0 m pc ls (v :: .ref a :: rest)) := by
  refine va_put (D := K.1) (ref := (T k).1) X.1 X.2.1 X.2.2.2.1 hin ty0 hty hnm X.2.2.1 X.2.2.2.2 hP hD hS q0 he hc k hk (X.2.2.2.1 _ hl) (fun _ h9 => h9) hfin (hty k hk) hn hfit hlen hdg (fun H1 locs1 h1 _ h3 => ?_)
  rw [hw] at h1
  exact kk H1 locs1 h1 h3
theorem z_iald (X : zFx K own cc p s m args c) {q0 a n : Nat} {f : Nat → Int32} {i : Nat} {v : Int32} (hP : va_P K.1 zcl w H) (ha : w[q0]? = some (a, .inl (K.2.1, n, .inl f))) (hi : i < n) (hn : n < 2 ^ 31) (hv : f i = v) (hdg : decode cc pc = .ok (.iaload, 1))
    (kk : W p l e R s m args below meth c H locs cells slots Q (F0 m (pc + 1) ls (.int v :: rest))) : W p l e R s m args below meth c H locs cells slots Q (F0 m pc ls (.int (nI i) :: .ref a :: rest)) := by
  refine va_iald (D := K.1) X.1 X.2.1 X.2.2.2.2 hP q0 0 ha rfl (vp_in_nI hi hn) hdg ?_
  rw [nI_clamp (Nat.lt_trans hi hn), hv]
  exact kk
theorem z_lald (X : zFx K own cc p s m args c) {q0 a n : Nat} {f : Nat → Int64} {i : Nat} (hP : va_P K.1 zcl w H) (ha : w[q0]? = some (a, .inl (K.2.2.1, n, .inr (.inl f)))) (hi : i < n) (hn : n < 2 ^ 31) (hdg : decode cc pc = .ok (.laload, 1))
    (kk : W p l e R s m args below meth c H locs cells slots Q (F0 m (pc + 1) ls (.long (f i) :: rest))) : W p l e R s m args below meth c H locs cells slots Q (F0 m pc ls (.int (nI i) :: .ref a :: rest)) := by
  refine va_lald (D := K.1) X.1 X.2.1 X.2.2.2.2 hP q0 1 ha rfl (vp_in_nI hi hn) hdg ?_
  rw [nI_clamp (Nat.lt_trans hi hn)]
  exact kk
theorem z_iast (X : zFx K own cc p s m args c) {q0 a n : Nat} {f g : Nat → Int32} {i : Nat} {x : Int32} {w' : va_W} (hP : va_P K.1 zcl w H) (hD : va_D A w) (hS : va_S A H0 H locs) (ha : w[q0]? = some (a, .inl (K.2.1, n, .inl f))) (hi : i < n) (hn : n < 2 ^ 31) (hg : upd f i x = g) (hw : w.set q0 (a, .inl (K.2.1, n, .inl g)) = w') (hdg : decode cc pc = .ok (.iastore, 1))
    (kk : ∀ (H1 : Heap) (locs1 : List Loc), va_P K.1 zcl w' H1 → va_S A H0 H1 locs1 → W p l e R s m args below meth c H1 locs1 cells slots Q (F0 m (pc + 1) ls rest)) : W p l e R s m args below meth c H locs cells slots Q (F0 m pc ls (.int x :: .int (nI i) :: .ref a :: rest)) := by
  refine va_iast (D := K.1) X.1 X.2.1 X.2.2.2.2 hP hD hS q0 0 ha rfl (vp_in_nI hi hn) hdg (fun H1 locs1 h1 _ h3 => ?_)
  rw [nI_clamp (Nat.lt_trans hi hn), hg, hw] at h1
  exact kk H1 locs1 h1 h3
theorem z_last (X : zFx K own cc p s m args c) {q0 a n : Nat} {f : Nat → Int64} {i : Nat} {x : Int64} {w' : va_W} (hP : va_P K.1 zcl w H) (hD : va_D A w) (hS : va_S A H0 H locs) (ha : w[q0]? = some (a, .inl (K.2.2.1, n, .inr (.inl f)))) (hi : i < n) (hn : n < 2 ^ 31) (hw : w.set q0 (a, .inl (K.2.2.1, n, .inr (.inl (vp_updL f i x)))) = w') (hdg : decode cc pc = .ok (.lastore, 1))
    (kk : ∀ (H1 : Heap) (locs1 : List Loc), va_P K.1 zcl w' H1 → va_S A H0 H1 locs1 → W p l e R s m args below meth c H1 locs1 cells slots Q (F0 m (pc + 1) ls rest)) : W p l e R s m args below meth c H locs cells slots Q (F0 m pc ls (.long x :: .int (nI i) :: .ref a :: rest)) := by
  refine va_last (D := K.1) X.1 X.2.1 X.2.2.2.2 hP hD hS q0 1 ha rfl (vp_in_nI hi hn) hdg (fun H1 locs1 h1 _ h3 => ?_)
  rw [nI_clamp (Nat.lt_trans hi hn), hw] at h1
  exact kk H1 locs1 h1 h3
theorem z_cont {T' t st₀ : State} {L : List Loc} {w' : va_W} (hS : va_S A H0 H locs) (h0 : st₀.heap = H) (hL : ∀ q ∈ L, A q.base) (e1 : T'.heap = t.heap) (hF : va_F A st₀ t) (hP : va_P K.1 zcl w' t.heap) : va_P K.1 zcl w' T'.heap ∧ va_S A H0 T'.heap (locs ++ L) := by
  obtain ⟨hz, hk⟩ := hF
  rw [h0] at hz hk
  refine ⟨by rw [e1]; exact hP, Nat.le_trans hS.1 (by rw [e1]; exact hz), fun q h1 h2 => ?_, fun q hq => ?_⟩
  · rw [e1, hk q (Nat.lt_of_lt_of_le h1 hS.1) h2]
    exact hS.2.1 q h1 h2
  · rcases List.mem_append.mp hq with h | h
    · exact hS.2.2 q h
    · exact hL q h
/-- a call of an instance's method by its contract -/
theorem z_callV {y : MethodName} {bytes : ByteArray} {maxL nL n index k : Nat} {ret : Option FieldType} {C : String} {b q0 ci : Nat} {fs : List Value} {qc : vw_C} {As st0 : List Value} {w' : va_W} {o : Option Value} (X : zFx K own cc p s m args c) (hml : c.maxLocals = nL) (hM : zMet l K A y (Cond.code y bytes maxL ret :: zW) k (.ref b :: As) w w' o) (cw : CallW R s args own C index y bytes maxL ret (Cond.code y bytes maxL ret :: zW) (zrm k) 0 0 n)
    (he : w[q0]? = some (b, .inr (ci, fs))) (hc : zcl[ci]? = some qc) (hC : qc.1 = C) (hP : va_P K.1 zcl w H) (hS : va_S A H0 H locs) (hn : As.length = n) (hsize : ls.size = nL) (hstack : st0 = As.reverse ++ .ref b :: rest) (hW : (rest.map fun v => v.category).sum ≤ 8) (hdg : decode cc pc = .ok (.invokevirtual index, 3)) (hf : cells ≤ R.cells ∧ slots ≤ R.slots)
    (kk : ∀ (H1 : Heap) (locs1 : List Loc), va_P K.1 zcl w' H1 → va_S A H0 H1 locs1 → W p l e R s m args below meth c H1 locs1 cells slots Q (F0 m (pc + 3) ls (o.toList ++ rest))) : W p l e R s m args below meth c H locs cells slots Q (F0 m pc ls st0) := by
  intro T hT XS
  subst hC
  obtain ⟨v, st₀, t, T', L, h0, X', hL, e1, e2, ⟨hv, hb, hF⟩, st⟩ := va_runV (cells := cells) (slots := slots) (g := F0 m pc ls st0) (As := As) (rest := rest) ⟨X.1, X.2.1, hml, X.2.2.1, X.2.2.2.1⟩ hM cw ⟨zPre_blind, va_recv X.2.2.2.2 hP hc he, fun U hU hWm => ⟨rfl, by rw [hU]; exact hP, va_K.moved hWm.alike X.2.2.2.2⟩⟩ rfl hn hsize hstack (lv_room hW) hdg hf T hT XS
  cases hv
  obtain ⟨hP1, hS1⟩ := z_cont (K := K) hS h0 hL e1 hF hb
  obtain ⟨t2, a1, b1⟩ := kk T'.heap (locs ++ L) hP1 hS1 T' rfl X'
  exact ⟨t2, st t2 a1, b1⟩
/-- a call of a static method by its contract -/
theorem z_callS {y : MethodName} {bytes : ByteArray} {maxL nL n index k : Nat} {ret : Option FieldType} {As st0 : List Value} {w' : va_W} {o : Option Value} (X : zFx K own cc p s m args c) (hml : c.maxLocals = nL) (hM : zMet l K A y (Cond.code y bytes maxL ret :: zW) k As w w' o) (cw : CallB R s args own index y bytes maxL ret (Cond.code y bytes maxL ret :: zW) (zrm k) 0 0 n ∧ (Cond.static y).before args s = true)
    (hP : va_P K.1 zcl w H) (hS : va_S A H0 H locs) (hn : As.length = n) (hsize : ls.size = nL) (hstack : st0 = As.reverse ++ rest) (hW : (rest.map fun v => v.category).sum ≤ 8) (hdg : decode cc pc = .ok (.invokestatic index, 3)) (hf : cells ≤ R.cells ∧ slots ≤ R.slots)
    (kk : ∀ (H1 : Heap) (locs1 : List Loc), va_P K.1 zcl w' H1 → va_S A H0 H1 locs1 → W p l e R s m args below meth c H1 locs1 cells slots Q (F0 m (pc + 3) ls (o.toList ++ rest))) : W p l e R s m args below meth c H locs cells slots Q (F0 m pc ls st0) := by
  intro T hT XS
  obtain ⟨v, st₀, t, T', L, h0, X', hL, e1, e2, ⟨hv, hb, hF⟩, st⟩ := va_runS (cells := cells) (slots := slots) (g := F0 m pc ls st0) (As := As) (rest := rest) ⟨X.1, X.2.1, hml, X.2.2.1, X.2.2.2.1⟩ hM cw ⟨zPre_blind, fun U hU hWm => ⟨rfl, by rw [hU]; exact hP, va_K.moved hWm.alike X.2.2.2.2⟩⟩ rfl hn hsize hstack (lv_room hW) hdg hf T hT XS
  cases hv
  obtain ⟨hP1, hS1⟩ := z_cont (K := K) hS h0 hL e1 hF hb
  obtain ⟨t2, a1, b1⟩ := kk T'.heap (locs ++ L) hP1 hS1 T' rfl X'
  exact ⟨t2, st t2 a1, b1⟩
end ZF
/-- Nat-valued rows as the machine holds them -/
def upN (f : Nat → Nat) (k x : Nat) : Nat → Nat := fun j => if j = k then x else f j
theorem upN_nI (f : Nat → Nat) (k x : Nat) : upd (fun j => nI (f j)) k (nI x) = fun j => nI (upN f k x j) := by
  funext j
  by_cases h : j = k
  · subst h; simp [upd, upN]
  · simp [upd, upN, h]
section ZF2
variable {p : Program} {l : Launch} {e : Env} {R : Room} {s : State} {m : MethodId} {args : Array Value} {below : List Frame} {meth : Method} {c : Code} {H : Heap} {locs : List Loc} {cells slots : Nat} {Q : State → Prop}
variable {K : zK} {own : String} {cc : ByteArray} {pc : Nat} {ls : Array Slot} {rest : List Value} {A : Nat → Prop} {w : va_W} {H0 : Heap}
variable {y : MethodName} {bytes : ByteArray} {maxL nL n index k : Nat} {ret : Option FieldType} {C : String} {b q0 ci : Nat} {fs : List Value} {qc : vw_C} {As st0 : List Value} {w' : va_W}
theorem z_callVi {r : Int32} (X : zFx K own cc p s m args c) (hml : c.maxLocals = nL) (hM : zMet l K A y (Cond.code y bytes maxL ret :: zW) k (.ref b :: As) w w' (some (.int r))) (cw : CallW R s args own C index y bytes maxL ret (Cond.code y bytes maxL ret :: zW) (zrm k) 0 0 n) (he : w[q0]? = some (b, .inr (ci, fs))) (hc : zcl[ci]? = some qc) (hC : qc.1 = C) (hP : va_P K.1 zcl w H) (hS : va_S A H0 H locs) (hn : As.length = n) (hsize : ls.size = nL) (hstack : st0 = As.reverse ++ .ref b :: rest) (hW : (rest.map fun v => v.category).sum ≤ 8) (hdg : decode cc pc = .ok (.invokevirtual index, 3)) (hf : cells ≤ R.cells ∧ slots ≤ R.slots)
    (kk : ∀ (H1 : Heap) (locs1 : List Loc), va_P K.1 zcl w' H1 → va_S A H0 H1 locs1 → W p l e R s m args below meth c H1 locs1 cells slots Q (F0 m (pc + 3) ls (.int r :: rest))) : W p l e R s m args below meth c H locs cells slots Q (F0 m pc ls st0) := z_callV X hml hM cw he hc hC hP hS hn hsize hstack hW hdg hf kk
theorem z_callVl {r : Int64} (X : zFx K own cc p s m args c) (hml : c.maxLocals = nL) (hM : zMet l K A y (Cond.code y bytes maxL ret :: zW) k (.ref b :: As) w w' (some (.long r))) (cw : CallW R s args own C index y bytes maxL ret (Cond.code y bytes maxL ret :: zW) (zrm k) 0 0 n) (he : w[q0]? = some (b, .inr (ci, fs))) (hc : zcl[ci]? = some qc) (hC : qc.1 = C) (hP : va_P K.1 zcl w H) (hS : va_S A H0 H locs) (hn : As.length = n) (hsize : ls.size = nL) (hstack : st0 = As.reverse ++ .ref b :: rest) (hW : (rest.map fun v => v.category).sum ≤ 8) (hdg : decode cc pc = .ok (.invokevirtual index, 3)) (hf : cells ≤ R.cells ∧ slots ≤ R.slots)
    (kk : ∀ (H1 : Heap) (locs1 : List Loc), va_P K.1 zcl w' H1 → va_S A H0 H1 locs1 → W p l e R s m args below meth c H1 locs1 cells slots Q (F0 m (pc + 3) ls (.long r :: rest))) : W p l e R s m args below meth c H locs cells slots Q (F0 m pc ls st0) := z_callV X hml hM cw he hc hC hP hS hn hsize hstack hW hdg hf kk
theorem z_callVv (X : zFx K own cc p s m args c) (hml : c.maxLocals = nL) (hM : zMet l K A y (Cond.code y bytes maxL ret :: zW) k (.ref b :: As) w w' none) (cw : CallW R s args own C index y bytes maxL ret (Cond.code y bytes maxL ret :: zW) (zrm k) 0 0 n) (he : w[q0]? = some (b, .inr (ci, fs))) (hc : zcl[ci]? = some qc) (hC : qc.1 = C) (hP : va_P K.1 zcl w H) (hS : va_S A H0 H locs) (hn : As.length = n) (hsize : ls.size = nL) (hstack : st0 = As.reverse ++ .ref b :: rest) (hW : (rest.map fun v => v.category).sum ≤ 8) (hdg : decode cc pc = .ok (.invokevirtual index, 3)) (hf : cells ≤ R.cells ∧ slots ≤ R.slots)
    (kk : ∀ (H1 : Heap) (locs1 : List Loc), va_P K.1 zcl w' H1 → va_S A H0 H1 locs1 → W p l e R s m args below meth c H1 locs1 cells slots Q (F0 m (pc + 3) ls rest)) : W p l e R s m args below meth c H locs cells slots Q (F0 m pc ls st0) := z_callV X hml hM cw he hc hC hP hS hn hsize hstack hW hdg hf kk
theorem z_callSi {r : Int32} (X : zFx K own cc p s m args c) (hml : c.maxLocals = nL) (hM : zMet l K A y (Cond.code y bytes maxL ret :: zW) k As w w' (some (.int r))) (cw : CallB R s args own index y bytes maxL ret (Cond.code y bytes maxL ret :: zW) (zrm k) 0 0 n ∧ (Cond.static y).before args s = true) (hP : va_P K.1 zcl w H) (hS : va_S A H0 H locs) (hn : As.length = n) (hsize : ls.size = nL) (hstack : st0 = As.reverse ++ rest) (hW : (rest.map fun v => v.category).sum ≤ 8) (hdg : decode cc pc = .ok (.invokestatic index, 3)) (hf : cells ≤ R.cells ∧ slots ≤ R.slots)
    (kk : ∀ (H1 : Heap) (locs1 : List Loc), va_P K.1 zcl w' H1 → va_S A H0 H1 locs1 → W p l e R s m args below meth c H1 locs1 cells slots Q (F0 m (pc + 3) ls (.int r :: rest))) : W p l e R s m args below meth c H locs cells slots Q (F0 m pc ls st0) := z_callS X hml hM cw hP hS hn hsize hstack hW hdg hf kk
theorem z_callSl {r : Int64} (X : zFx K own cc p s m args c) (hml : c.maxLocals = nL) (hM : zMet l K A y (Cond.code y bytes maxL ret :: zW) k As w w' (some (.long r))) (cw : CallB R s args own index y bytes maxL ret (Cond.code y bytes maxL ret :: zW) (zrm k) 0 0 n ∧ (Cond.static y).before args s = true) (hP : va_P K.1 zcl w H) (hS : va_S A H0 H locs) (hn : As.length = n) (hsize : ls.size = nL) (hstack : st0 = As.reverse ++ rest) (hW : (rest.map fun v => v.category).sum ≤ 8) (hdg : decode cc pc = .ok (.invokestatic index, 3)) (hf : cells ≤ R.cells ∧ slots ≤ R.slots)
    (kk : ∀ (H1 : Heap) (locs1 : List Loc), va_P K.1 zcl w' H1 → va_S A H0 H1 locs1 → W p l e R s m args below meth c H1 locs1 cells slots Q (F0 m (pc + 3) ls (.long r :: rest))) : W p l e R s m args below meth c H locs cells slots Q (F0 m pc ls st0) := z_callS X hml hM cw hP hS hn hsize hstack hW hdg hf kk
end ZF2
theorem z_eq0 {x : Nat} (h : x < 2 ^ 31) : nI x = 0 ↔ x = 0 := by
  rw [← nI_0]; exact nI_eq h (by decide)
theorem z_lt0 {x : Nat} (h : x < 2 ^ 31) : ¬ nI x < 0 := nI_pos h
theorem z_ge0 {x : Nat} (h : x < 2 ^ 31) : 0 ≤ nI x := nI_pos' h
end
section
/-! the class: its state (Targets, Aspects, Memory, the latest clash), its world, reads and writes (by program: wip/gen/cls.py) -/
abbrev cTS : Type := (Nat → Int64) × (Nat → Int32) × (Nat → Nat) × (Nat → Nat) × (Nat → Nat) × (Nat → Int32) × (Nat)
abbrev cAS : Type := (Nat → Nat) × (Nat → Int32) × (Nat → Int32) × (Nat → Int32) × (Nat → Int32) × (Nat → Nat) × (Nat → Nat) × (Nat → Int32) × (Nat)
abbrev cMS : Type := (Nat → Int32) × (Nat → Int32) × (Nat → Int32) × (Nat → Int64) × (Nat → Int32) × (Nat → Nat) × (Int32)
abbrev cS : Type := cTS × cAS × cMS × (Nat → Int32)
abbrev cT_values (σ : cS) : Nat → Int64 := σ.1.1
def p_cT_values (σ : cS) (f : Nat → Int64) : cS := ((f, σ.1.2.1, σ.1.2.2.1, σ.1.2.2.2.1, σ.1.2.2.2.2.1, σ.1.2.2.2.2.2.1, σ.1.2.2.2.2.2.2), σ.2)
abbrev cT_providers (σ : cS) : Nat → Int32 := σ.1.2.1
def p_cT_providers (σ : cS) (f : Nat → Int32) : cS := ((σ.1.1, f, σ.1.2.2.1, σ.1.2.2.2.1, σ.1.2.2.2.2.1, σ.1.2.2.2.2.2.1, σ.1.2.2.2.2.2.2), σ.2)
abbrev cT_ends (σ : cS) : Nat → Nat := σ.1.2.2.1
def p_cT_ends (σ : cS) (f : Nat → Nat) : cS := ((σ.1.1, σ.1.2.1, f, σ.1.2.2.2.1, σ.1.2.2.2.2.1, σ.1.2.2.2.2.2.1, σ.1.2.2.2.2.2.2), σ.2)
abbrev cT_rows (σ : cS) : Nat → Nat := σ.1.2.2.2.1
def p_cT_rows (σ : cS) (f : Nat → Nat) : cS := ((σ.1.1, σ.1.2.1, σ.1.2.2.1, f, σ.1.2.2.2.2.1, σ.1.2.2.2.2.2.1, σ.1.2.2.2.2.2.2), σ.2)
abbrev cT_rowLengths (σ : cS) : Nat → Nat := σ.1.2.2.2.2.1
def p_cT_rowLengths (σ : cS) (f : Nat → Nat) : cS := ((σ.1.1, σ.1.2.1, σ.1.2.2.1, σ.1.2.2.2.1, f, σ.1.2.2.2.2.2.1, σ.1.2.2.2.2.2.2), σ.2)
abbrev cT_reached (σ : cS) : Nat → Int32 := σ.1.2.2.2.2.2.1
def p_cT_reached (σ : cS) (f : Nat → Int32) : cS := ((σ.1.1, σ.1.2.1, σ.1.2.2.1, σ.1.2.2.2.1, σ.1.2.2.2.2.1, f, σ.1.2.2.2.2.2.2), σ.2)
abbrev cT_opened (σ : cS) : Nat := σ.1.2.2.2.2.2.2
def p_cT_opened (σ : cS) (f : Nat) : cS := ((σ.1.1, σ.1.2.1, σ.1.2.2.1, σ.1.2.2.2.1, σ.1.2.2.2.2.1, σ.1.2.2.2.2.2.1, f), σ.2)
abbrev cA_kinds (σ : cS) : Nat → Nat := σ.2.1.1
def p_cA_kinds (σ : cS) (f : Nat → Nat) : cS := (σ.1, (f, σ.2.1.2.1, σ.2.1.2.2.1, σ.2.1.2.2.2.1, σ.2.1.2.2.2.2.1, σ.2.1.2.2.2.2.2.1, σ.2.1.2.2.2.2.2.2.1, σ.2.1.2.2.2.2.2.2.2.1, σ.2.1.2.2.2.2.2.2.2.2), σ.2.2)
abbrev cA_alongs (σ : cS) : Nat → Int32 := σ.2.1.2.1
def p_cA_alongs (σ : cS) (f : Nat → Int32) : cS := (σ.1, (σ.2.1.1, f, σ.2.1.2.2.1, σ.2.1.2.2.2.1, σ.2.1.2.2.2.2.1, σ.2.1.2.2.2.2.2.1, σ.2.1.2.2.2.2.2.2.1, σ.2.1.2.2.2.2.2.2.2.1, σ.2.1.2.2.2.2.2.2.2.2), σ.2.2)
abbrev cA_wants (σ : cS) : Nat → Int32 := σ.2.1.2.2.1
def p_cA_wants (σ : cS) (f : Nat → Int32) : cS := (σ.1, (σ.2.1.1, σ.2.1.2.1, f, σ.2.1.2.2.2.1, σ.2.1.2.2.2.2.1, σ.2.1.2.2.2.2.2.1, σ.2.1.2.2.2.2.2.2.1, σ.2.1.2.2.2.2.2.2.2.1, σ.2.1.2.2.2.2.2.2.2.2), σ.2.2)
abbrev cA_gives (σ : cS) : Nat → Int32 := σ.2.1.2.2.2.1
def p_cA_gives (σ : cS) (f : Nat → Int32) : cS := (σ.1, (σ.2.1.1, σ.2.1.2.1, σ.2.1.2.2.1, f, σ.2.1.2.2.2.2.1, σ.2.1.2.2.2.2.2.1, σ.2.1.2.2.2.2.2.2.1, σ.2.1.2.2.2.2.2.2.2.1, σ.2.1.2.2.2.2.2.2.2.2), σ.2.2)
abbrev cA_names (σ : cS) : Nat → Int32 := σ.2.1.2.2.2.2.1
def p_cA_names (σ : cS) (f : Nat → Int32) : cS := (σ.1, (σ.2.1.1, σ.2.1.2.1, σ.2.1.2.2.1, σ.2.1.2.2.2.1, f, σ.2.1.2.2.2.2.2.1, σ.2.1.2.2.2.2.2.2.1, σ.2.1.2.2.2.2.2.2.2.1, σ.2.1.2.2.2.2.2.2.2.2), σ.2.2)
abbrev cA_needs (σ : cS) : Nat → Nat := σ.2.1.2.2.2.2.2.1
def p_cA_needs (σ : cS) (f : Nat → Nat) : cS := (σ.1, (σ.2.1.1, σ.2.1.2.1, σ.2.1.2.2.1, σ.2.1.2.2.2.1, σ.2.1.2.2.2.2.1, f, σ.2.1.2.2.2.2.2.2.1, σ.2.1.2.2.2.2.2.2.2.1, σ.2.1.2.2.2.2.2.2.2.2), σ.2.2)
abbrev cA_needCounts (σ : cS) : Nat → Nat := σ.2.1.2.2.2.2.2.2.1
def p_cA_needCounts (σ : cS) (f : Nat → Nat) : cS := (σ.1, (σ.2.1.1, σ.2.1.2.1, σ.2.1.2.2.1, σ.2.1.2.2.2.1, σ.2.1.2.2.2.2.1, σ.2.1.2.2.2.2.2.1, f, σ.2.1.2.2.2.2.2.2.2.1, σ.2.1.2.2.2.2.2.2.2.2), σ.2.2)
abbrev cA_reached (σ : cS) : Nat → Int32 := σ.2.1.2.2.2.2.2.2.2.1
def p_cA_reached (σ : cS) (f : Nat → Int32) : cS := (σ.1, (σ.2.1.1, σ.2.1.2.1, σ.2.1.2.2.1, σ.2.1.2.2.2.1, σ.2.1.2.2.2.2.1, σ.2.1.2.2.2.2.2.1, σ.2.1.2.2.2.2.2.2.1, f, σ.2.1.2.2.2.2.2.2.2.2), σ.2.2)
abbrev cA_opened (σ : cS) : Nat := σ.2.1.2.2.2.2.2.2.2.2
def p_cA_opened (σ : cS) (f : Nat) : cS := (σ.1, (σ.2.1.1, σ.2.1.2.1, σ.2.1.2.2.1, σ.2.1.2.2.2.1, σ.2.1.2.2.2.2.1, σ.2.1.2.2.2.2.2.1, σ.2.1.2.2.2.2.2.2.1, σ.2.1.2.2.2.2.2.2.2.1, f), σ.2.2)
abbrev cM_doneSettings (σ : cS) : Nat → Int32 := σ.2.2.1.1
def p_cM_doneSettings (σ : cS) (f : Nat → Int32) : cS := (σ.1, σ.2.1, (f, σ.2.2.1.2.1, σ.2.2.1.2.2.1, σ.2.2.1.2.2.2.1, σ.2.2.1.2.2.2.2.1, σ.2.2.1.2.2.2.2.2.1, σ.2.2.1.2.2.2.2.2.2), σ.2.2.2)
abbrev cM_passedSettings (σ : cS) : Nat → Int32 := σ.2.2.1.2.1
def p_cM_passedSettings (σ : cS) (f : Nat → Int32) : cS := (σ.1, σ.2.1, (σ.2.2.1.1, f, σ.2.2.1.2.2.1, σ.2.2.1.2.2.2.1, σ.2.2.1.2.2.2.2.1, σ.2.2.1.2.2.2.2.2.1, σ.2.2.1.2.2.2.2.2.2), σ.2.2.2)
abbrev cM_doneTimes (σ : cS) : Nat → Int32 := σ.2.2.1.2.2.1
def p_cM_doneTimes (σ : cS) (f : Nat → Int32) : cS := (σ.1, σ.2.1, (σ.2.2.1.1, σ.2.2.1.2.1, f, σ.2.2.1.2.2.2.1, σ.2.2.1.2.2.2.2.1, σ.2.2.1.2.2.2.2.2.1, σ.2.2.1.2.2.2.2.2.2), σ.2.2.2)
abbrev cM_results (σ : cS) : Nat → Int64 := σ.2.2.1.2.2.2.1
def p_cM_results (σ : cS) (f : Nat → Int64) : cS := (σ.1, σ.2.1, (σ.2.2.1.1, σ.2.2.1.2.1, σ.2.2.1.2.2.1, f, σ.2.2.1.2.2.2.2.1, σ.2.2.1.2.2.2.2.2.1, σ.2.2.1.2.2.2.2.2.2), σ.2.2.2)
abbrev cM_makers (σ : cS) : Nat → Int32 := σ.2.2.1.2.2.2.2.1
def p_cM_makers (σ : cS) (f : Nat → Int32) : cS := (σ.1, σ.2.1, (σ.2.2.1.1, σ.2.2.1.2.1, σ.2.2.1.2.2.1, σ.2.2.1.2.2.2.1, f, σ.2.2.1.2.2.2.2.2.1, σ.2.2.1.2.2.2.2.2.2), σ.2.2.2)
abbrev cM_makerSettings (σ : cS) : Nat → Nat := σ.2.2.1.2.2.2.2.2.1
def p_cM_makerSettings (σ : cS) (f : Nat → Nat) : cS := (σ.1, σ.2.1, (σ.2.2.1.1, σ.2.2.1.2.1, σ.2.2.1.2.2.1, σ.2.2.1.2.2.2.1, σ.2.2.1.2.2.2.2.1, f, σ.2.2.1.2.2.2.2.2.2), σ.2.2.2)
abbrev cM_nowDone (σ : cS) : Int32 := σ.2.2.1.2.2.2.2.2.2
def p_cM_nowDone (σ : cS) (f : Int32) : cS := (σ.1, σ.2.1, (σ.2.2.1.1, σ.2.2.1.2.1, σ.2.2.1.2.2.1, σ.2.2.1.2.2.2.1, σ.2.2.1.2.2.2.2.1, σ.2.2.1.2.2.2.2.2.1, f), σ.2.2.2)
abbrev cW_clash (σ : cS) : Nat → Int32 := σ.2.2.2
def p_cW_clash (σ : cS) (f : Nat → Int32) : cS := (σ.1, σ.2.1, σ.2.2.1, f)
def cW (K : zK) (G : Nat → Nat) (σ : cS) : va_W := [
  (G 0, .inr (3, [.ref (G 1), .ref (G 2), .ref (G 3), .ref (G 4)])),
  (G 1, .inr (0, [.ref (G 5), .ref (G 6), .ref (G 7), .ref (G 8), .ref (G 9), .ref (G 10), .int (nI (cT_opened σ))])),
  (G 2, .inr (1, [.ref (G 11), .ref (G 12), .ref (G 13), .ref (G 14), .ref (G 15), .ref (G 16), .ref (G 17), .ref (G 18), .int (nI (cA_opened σ))])),
  (G 3, .inr (2, [.ref (G 19), .ref (G 20), .ref (G 21), .ref (G 22), .ref (G 23), .ref (G 24), .int (cM_nowDone σ)])),
  (G 4, .inl (K.2.1, 5, .inl (cW_clash σ))),
  (G 5, .inl (K.2.2.1, 20, .inr (.inl (cT_values σ)))),
  (G 6, .inl (K.2.1, 20, .inl (cT_providers σ))),
  (G 7, .inl (K.2.1, 20, .inl (fun j => nI ((cT_ends σ) j)))),
  (G 8, .inl (K.2.1, 240, .inl (fun j => nI ((cT_rows σ) j)))),
  (G 9, .inl (K.2.1, 60, .inl (fun j => nI ((cT_rowLengths σ) j)))),
  (G 10, .inl (K.2.1, 20, .inl (cT_reached σ))),
  (G 11, .inl (K.2.1, 8, .inl (fun j => nI ((cA_kinds σ) j)))),
  (G 12, .inl (K.2.1, 8, .inl (cA_alongs σ))),
  (G 13, .inl (K.2.1, 8, .inl (cA_wants σ))),
  (G 14, .inl (K.2.1, 8, .inl (cA_gives σ))),
  (G 15, .inl (K.2.1, 8, .inl (cA_names σ))),
  (G 16, .inl (K.2.1, 24, .inl (fun j => nI ((cA_needs σ) j)))),
  (G 17, .inl (K.2.1, 8, .inl (fun j => nI ((cA_needCounts σ) j)))),
  (G 18, .inl (K.2.1, 8, .inl (cA_reached σ))),
  (G 19, .inl (K.2.1, 160, .inl (cM_doneSettings σ))),
  (G 20, .inl (K.2.1, 160, .inl (cM_passedSettings σ))),
  (G 21, .inl (K.2.1, 160, .inl (cM_doneTimes σ))),
  (G 22, .inl (K.2.2.1, 2560, .inr (.inl (cM_results σ)))),
  (G 23, .inl (K.2.1, 200, .inl (cM_makers σ))),
  (G 24, .inl (K.2.1, 200, .inl (fun j => nI ((cM_makerSettings σ) j))))]
section ZC
variable {p : Program} {l : Launch} {e : Env} {R : Room} {s : State} {m : MethodId} {args : Array Value} {below : List Frame} {meth : Method} {c : Code} {H : Heap} {locs : List Loc} {cells slots : Nat} {Q : State → Prop}
variable {K : zK} {cc : ByteArray} {pc : Nat} {ls : Array Slot} {rest : List Value} {A : Nat → Prop} {H0 : Heap} {G : Nat → Nat}
theorem g_cT_values {σ : cS} (X : zFx K zR_T cc p s m args c) (hP : va_P K.1 zcl (cW K G σ) H) (hdg : decode cc pc = .ok (.getfield 9, 3)) (kk : W p l e R s m args below meth c H locs cells slots Q (F0 m (pc + 3) ls (.ref (G 5) :: rest))) : W p l e R s m args below meth c H locs cells slots Q (F0 m pc ls (.ref (G 1) :: rest)) :=
  z_get (N := 7) (ci := 0) (q0 := 1) X zin_T hP rfl rfl 0 (by decide) zw_28 rfl hdg kk
theorem l_cT_values {σ : cS} {i : Nat} (X : zFx K zR_T cc p s m args c) (hP : va_P K.1 zcl (cW K G σ) H) (hi : i < 20) (hdg : decode cc pc = .ok (.laload, 1)) (kk : W p l e R s m args below meth c H locs cells slots Q (F0 m (pc + 1) ls (.long (cT_values σ i) :: rest))) : W p l e R s m args below meth c H locs cells slots Q (F0 m pc ls (.int (nI i) :: .ref (G 5) :: rest)) :=
  z_lald (q0 := 5) X hP rfl hi (by decide) hdg kk
theorem s_cT_values {σ : cS} {i : Nat} {x : Int64} (X : zFx K zR_T cc p s m args c) (hD : ∀ σ, va_D A (cW K G σ)) (hP : va_P K.1 zcl (cW K G σ) H) (hS : va_S A H0 H locs) (hi : i < 20) (hdg : decode cc pc = .ok (.lastore, 1)) (kk : ∀ (H1 : Heap) (locs1 : List Loc), va_P K.1 zcl (cW K G (p_cT_values σ (vp_updL (cT_values σ) i x))) H1 → va_S A H0 H1 locs1 → W p l e R s m args below meth c H1 locs1 cells slots Q (F0 m (pc + 1) ls rest)) : W p l e R s m args below meth c H locs cells slots Q (F0 m pc ls (.long x :: .int (nI i) :: .ref (G 5) :: rest)) :=
  z_last (q0 := 5) X hP (hD σ) hS rfl hi (by decide) rfl hdg kk
theorem g_cT_providers {σ : cS} (X : zFx K zR_T cc p s m args c) (hP : va_P K.1 zcl (cW K G σ) H) (hdg : decode cc pc = .ok (.getfield 15, 3)) (kk : W p l e R s m args below meth c H locs cells slots Q (F0 m (pc + 3) ls (.ref (G 6) :: rest))) : W p l e R s m args below meth c H locs cells slots Q (F0 m pc ls (.ref (G 1) :: rest)) :=
  z_get (N := 7) (ci := 0) (q0 := 1) X zin_T hP rfl rfl 1 (by decide) zw_29 rfl hdg kk
theorem l_cT_providers {σ : cS} {i : Nat} (X : zFx K zR_T cc p s m args c) (hP : va_P K.1 zcl (cW K G σ) H) (hi : i < 20) (hdg : decode cc pc = .ok (.iaload, 1)) (kk : W p l e R s m args below meth c H locs cells slots Q (F0 m (pc + 1) ls (.int (cT_providers σ i) :: rest))) : W p l e R s m args below meth c H locs cells slots Q (F0 m pc ls (.int (nI i) :: .ref (G 6) :: rest)) :=
  z_iald (q0 := 6) X hP rfl hi (by decide) rfl hdg kk
theorem s_cT_providers {σ : cS} {i : Nat} {x : Int32} (X : zFx K zR_T cc p s m args c) (hD : ∀ σ, va_D A (cW K G σ)) (hP : va_P K.1 zcl (cW K G σ) H) (hS : va_S A H0 H locs) (hi : i < 20) (hdg : decode cc pc = .ok (.iastore, 1)) (kk : ∀ (H1 : Heap) (locs1 : List Loc), va_P K.1 zcl (cW K G (p_cT_providers σ (upd (cT_providers σ) i x))) H1 → va_S A H0 H1 locs1 → W p l e R s m args below meth c H1 locs1 cells slots Q (F0 m (pc + 1) ls rest)) : W p l e R s m args below meth c H locs cells slots Q (F0 m pc ls (.int x :: .int (nI i) :: .ref (G 6) :: rest)) :=
  z_iast (q0 := 6) X hP (hD σ) hS rfl hi (by decide) rfl rfl hdg kk
theorem g_cT_ends {σ : cS} (X : zFx K zR_T cc p s m args c) (hP : va_P K.1 zcl (cW K G σ) H) (hdg : decode cc pc = .ok (.getfield 19, 3)) (kk : W p l e R s m args below meth c H locs cells slots Q (F0 m (pc + 3) ls (.ref (G 7) :: rest))) : W p l e R s m args below meth c H locs cells slots Q (F0 m pc ls (.ref (G 1) :: rest)) :=
  z_get (N := 7) (ci := 0) (q0 := 1) X zin_T hP rfl rfl 2 (by decide) zw_30 rfl hdg kk
theorem l_cT_ends {σ : cS} {i : Nat} (X : zFx K zR_T cc p s m args c) (hP : va_P K.1 zcl (cW K G σ) H) (hi : i < 20) (hdg : decode cc pc = .ok (.iaload, 1)) (kk : W p l e R s m args below meth c H locs cells slots Q (F0 m (pc + 1) ls (.int (nI (cT_ends σ i)) :: rest))) : W p l e R s m args below meth c H locs cells slots Q (F0 m pc ls (.int (nI i) :: .ref (G 7) :: rest)) :=
  z_iald (q0 := 7) X hP rfl hi (by decide) rfl hdg kk
theorem s_cT_ends {σ : cS} {i x : Nat} (X : zFx K zR_T cc p s m args c) (hD : ∀ σ, va_D A (cW K G σ)) (hP : va_P K.1 zcl (cW K G σ) H) (hS : va_S A H0 H locs) (hi : i < 20) (hdg : decode cc pc = .ok (.iastore, 1)) (kk : ∀ (H1 : Heap) (locs1 : List Loc), va_P K.1 zcl (cW K G (p_cT_ends σ (upN (cT_ends σ) i x))) H1 → va_S A H0 H1 locs1 → W p l e R s m args below meth c H1 locs1 cells slots Q (F0 m (pc + 1) ls rest)) : W p l e R s m args below meth c H locs cells slots Q (F0 m pc ls (.int (nI x) :: .int (nI i) :: .ref (G 7) :: rest)) :=
  z_iast (q0 := 7) X hP (hD σ) hS rfl hi (by decide) (upN_nI _ _ _) rfl hdg kk
theorem g_cT_rows {σ : cS} (X : zFx K zR_T cc p s m args c) (hP : va_P K.1 zcl (cW K G σ) H) (hdg : decode cc pc = .ok (.getfield 22, 3)) (kk : W p l e R s m args below meth c H locs cells slots Q (F0 m (pc + 3) ls (.ref (G 8) :: rest))) : W p l e R s m args below meth c H locs cells slots Q (F0 m pc ls (.ref (G 1) :: rest)) :=
  z_get (N := 7) (ci := 0) (q0 := 1) X zin_T hP rfl rfl 3 (by decide) zw_31 rfl hdg kk
theorem l_cT_rows {σ : cS} {i : Nat} (X : zFx K zR_T cc p s m args c) (hP : va_P K.1 zcl (cW K G σ) H) (hi : i < 240) (hdg : decode cc pc = .ok (.iaload, 1)) (kk : W p l e R s m args below meth c H locs cells slots Q (F0 m (pc + 1) ls (.int (nI (cT_rows σ i)) :: rest))) : W p l e R s m args below meth c H locs cells slots Q (F0 m pc ls (.int (nI i) :: .ref (G 8) :: rest)) :=
  z_iald (q0 := 8) X hP rfl hi (by decide) rfl hdg kk
theorem s_cT_rows {σ : cS} {i x : Nat} (X : zFx K zR_T cc p s m args c) (hD : ∀ σ, va_D A (cW K G σ)) (hP : va_P K.1 zcl (cW K G σ) H) (hS : va_S A H0 H locs) (hi : i < 240) (hdg : decode cc pc = .ok (.iastore, 1)) (kk : ∀ (H1 : Heap) (locs1 : List Loc), va_P K.1 zcl (cW K G (p_cT_rows σ (upN (cT_rows σ) i x))) H1 → va_S A H0 H1 locs1 → W p l e R s m args below meth c H1 locs1 cells slots Q (F0 m (pc + 1) ls rest)) : W p l e R s m args below meth c H locs cells slots Q (F0 m pc ls (.int (nI x) :: .int (nI i) :: .ref (G 8) :: rest)) :=
  z_iast (q0 := 8) X hP (hD σ) hS rfl hi (by decide) (upN_nI _ _ _) rfl hdg kk
theorem g_cT_rowLengths {σ : cS} (X : zFx K zR_T cc p s m args c) (hP : va_P K.1 zcl (cW K G σ) H) (hdg : decode cc pc = .ok (.getfield 25, 3)) (kk : W p l e R s m args below meth c H locs cells slots Q (F0 m (pc + 3) ls (.ref (G 9) :: rest))) : W p l e R s m args below meth c H locs cells slots Q (F0 m pc ls (.ref (G 1) :: rest)) :=
  z_get (N := 7) (ci := 0) (q0 := 1) X zin_T hP rfl rfl 4 (by decide) zw_32 rfl hdg kk
theorem l_cT_rowLengths {σ : cS} {i : Nat} (X : zFx K zR_T cc p s m args c) (hP : va_P K.1 zcl (cW K G σ) H) (hi : i < 60) (hdg : decode cc pc = .ok (.iaload, 1)) (kk : W p l e R s m args below meth c H locs cells slots Q (F0 m (pc + 1) ls (.int (nI (cT_rowLengths σ i)) :: rest))) : W p l e R s m args below meth c H locs cells slots Q (F0 m pc ls (.int (nI i) :: .ref (G 9) :: rest)) :=
  z_iald (q0 := 9) X hP rfl hi (by decide) rfl hdg kk
theorem s_cT_rowLengths {σ : cS} {i x : Nat} (X : zFx K zR_T cc p s m args c) (hD : ∀ σ, va_D A (cW K G σ)) (hP : va_P K.1 zcl (cW K G σ) H) (hS : va_S A H0 H locs) (hi : i < 60) (hdg : decode cc pc = .ok (.iastore, 1)) (kk : ∀ (H1 : Heap) (locs1 : List Loc), va_P K.1 zcl (cW K G (p_cT_rowLengths σ (upN (cT_rowLengths σ) i x))) H1 → va_S A H0 H1 locs1 → W p l e R s m args below meth c H1 locs1 cells slots Q (F0 m (pc + 1) ls rest)) : W p l e R s m args below meth c H locs cells slots Q (F0 m pc ls (.int (nI x) :: .int (nI i) :: .ref (G 9) :: rest)) :=
  z_iast (q0 := 9) X hP (hD σ) hS rfl hi (by decide) (upN_nI _ _ _) rfl hdg kk
theorem g_cT_reached {σ : cS} (X : zFx K zR_T cc p s m args c) (hP : va_P K.1 zcl (cW K G σ) H) (hdg : decode cc pc = .ok (.getfield 28, 3)) (kk : W p l e R s m args below meth c H locs cells slots Q (F0 m (pc + 3) ls (.ref (G 10) :: rest))) : W p l e R s m args below meth c H locs cells slots Q (F0 m pc ls (.ref (G 1) :: rest)) :=
  z_get (N := 7) (ci := 0) (q0 := 1) X zin_T hP rfl rfl 5 (by decide) zw_33 rfl hdg kk
theorem l_cT_reached {σ : cS} {i : Nat} (X : zFx K zR_T cc p s m args c) (hP : va_P K.1 zcl (cW K G σ) H) (hi : i < 20) (hdg : decode cc pc = .ok (.iaload, 1)) (kk : W p l e R s m args below meth c H locs cells slots Q (F0 m (pc + 1) ls (.int (cT_reached σ i) :: rest))) : W p l e R s m args below meth c H locs cells slots Q (F0 m pc ls (.int (nI i) :: .ref (G 10) :: rest)) :=
  z_iald (q0 := 10) X hP rfl hi (by decide) rfl hdg kk
theorem s_cT_reached {σ : cS} {i : Nat} {x : Int32} (X : zFx K zR_T cc p s m args c) (hD : ∀ σ, va_D A (cW K G σ)) (hP : va_P K.1 zcl (cW K G σ) H) (hS : va_S A H0 H locs) (hi : i < 20) (hdg : decode cc pc = .ok (.iastore, 1)) (kk : ∀ (H1 : Heap) (locs1 : List Loc), va_P K.1 zcl (cW K G (p_cT_reached σ (upd (cT_reached σ) i x))) H1 → va_S A H0 H1 locs1 → W p l e R s m args below meth c H1 locs1 cells slots Q (F0 m (pc + 1) ls rest)) : W p l e R s m args below meth c H locs cells slots Q (F0 m pc ls (.int x :: .int (nI i) :: .ref (G 10) :: rest)) :=
  z_iast (q0 := 10) X hP (hD σ) hS rfl hi (by decide) rfl rfl hdg kk
theorem g_cT_opened {σ : cS} (X : zFx K zR_T cc p s m args c) (hP : va_P K.1 zcl (cW K G σ) H) (hdg : decode cc pc = .ok (.getfield 31, 3)) (kk : W p l e R s m args below meth c H locs cells slots Q (F0 m (pc + 3) ls (.int (nI (cT_opened σ)) :: rest))) : W p l e R s m args below meth c H locs cells slots Q (F0 m pc ls (.ref (G 1) :: rest)) :=
  z_get (N := 7) (ci := 0) (q0 := 1) X zin_T hP rfl rfl 6 (by decide) zw_34 rfl hdg kk
theorem s_cT_opened {σ : cS} {x : Nat} (X : zFx K zR_T cc p s m args c) (hD : ∀ σ, va_D A (cW K G σ)) (hP : va_P K.1 zcl (cW K G σ) H) (hS : va_S A H0 H locs) (hdg : decode cc pc = .ok (.putfield 31, 3)) (kk : ∀ (H1 : Heap) (locs1 : List Loc), va_P K.1 zcl (cW K G (p_cT_opened σ x)) H1 → va_S A H0 H1 locs1 → W p l e R s m args below meth c H1 locs1 cells slots Q (F0 m (pc + 3) ls rest)) : W p l e R s m args below meth c H locs cells slots Q (F0 m pc ls (.int (nI x) :: .ref (G 1) :: rest)) :=
  z_put (N := 7) (ci := 0) (q0 := 1) X zt_T zin_T zty_T znm_T hP (hD σ) hS rfl rfl 6 (by decide) zw_34 rfl rfl rfl (Nat.le_of_ble_eq_true rfl) rfl hdg kk
theorem g_cA_kinds {σ : cS} (X : zFx K zR_A cc p s m args c) (hP : va_P K.1 zcl (cW K G σ) H) (hdg : decode cc pc = .ok (.getfield 9, 3)) (kk : W p l e R s m args below meth c H locs cells slots Q (F0 m (pc + 3) ls (.ref (G 11) :: rest))) : W p l e R s m args below meth c H locs cells slots Q (F0 m pc ls (.ref (G 2) :: rest)) :=
  z_get (N := 9) (ci := 1) (q0 := 2) X zin_A hP rfl rfl 0 (by decide) zw_58 rfl hdg kk
theorem l_cA_kinds {σ : cS} {i : Nat} (X : zFx K zR_A cc p s m args c) (hP : va_P K.1 zcl (cW K G σ) H) (hi : i < 8) (hdg : decode cc pc = .ok (.iaload, 1)) (kk : W p l e R s m args below meth c H locs cells slots Q (F0 m (pc + 1) ls (.int (nI (cA_kinds σ i)) :: rest))) : W p l e R s m args below meth c H locs cells slots Q (F0 m pc ls (.int (nI i) :: .ref (G 11) :: rest)) :=
  z_iald (q0 := 11) X hP rfl hi (by decide) rfl hdg kk
theorem s_cA_kinds {σ : cS} {i x : Nat} (X : zFx K zR_A cc p s m args c) (hD : ∀ σ, va_D A (cW K G σ)) (hP : va_P K.1 zcl (cW K G σ) H) (hS : va_S A H0 H locs) (hi : i < 8) (hdg : decode cc pc = .ok (.iastore, 1)) (kk : ∀ (H1 : Heap) (locs1 : List Loc), va_P K.1 zcl (cW K G (p_cA_kinds σ (upN (cA_kinds σ) i x))) H1 → va_S A H0 H1 locs1 → W p l e R s m args below meth c H1 locs1 cells slots Q (F0 m (pc + 1) ls rest)) : W p l e R s m args below meth c H locs cells slots Q (F0 m pc ls (.int (nI x) :: .int (nI i) :: .ref (G 11) :: rest)) :=
  z_iast (q0 := 11) X hP (hD σ) hS rfl hi (by decide) (upN_nI _ _ _) rfl hdg kk
theorem g_cA_alongs {σ : cS} (X : zFx K zR_A cc p s m args c) (hP : va_P K.1 zcl (cW K G σ) H) (hdg : decode cc pc = .ok (.getfield 15, 3)) (kk : W p l e R s m args below meth c H locs cells slots Q (F0 m (pc + 3) ls (.ref (G 12) :: rest))) : W p l e R s m args below meth c H locs cells slots Q (F0 m pc ls (.ref (G 2) :: rest)) :=
  z_get (N := 9) (ci := 1) (q0 := 2) X zin_A hP rfl rfl 1 (by decide) zw_59 rfl hdg kk
theorem l_cA_alongs {σ : cS} {i : Nat} (X : zFx K zR_A cc p s m args c) (hP : va_P K.1 zcl (cW K G σ) H) (hi : i < 8) (hdg : decode cc pc = .ok (.iaload, 1)) (kk : W p l e R s m args below meth c H locs cells slots Q (F0 m (pc + 1) ls (.int (cA_alongs σ i) :: rest))) : W p l e R s m args below meth c H locs cells slots Q (F0 m pc ls (.int (nI i) :: .ref (G 12) :: rest)) :=
  z_iald (q0 := 12) X hP rfl hi (by decide) rfl hdg kk
theorem s_cA_alongs {σ : cS} {i : Nat} {x : Int32} (X : zFx K zR_A cc p s m args c) (hD : ∀ σ, va_D A (cW K G σ)) (hP : va_P K.1 zcl (cW K G σ) H) (hS : va_S A H0 H locs) (hi : i < 8) (hdg : decode cc pc = .ok (.iastore, 1)) (kk : ∀ (H1 : Heap) (locs1 : List Loc), va_P K.1 zcl (cW K G (p_cA_alongs σ (upd (cA_alongs σ) i x))) H1 → va_S A H0 H1 locs1 → W p l e R s m args below meth c H1 locs1 cells slots Q (F0 m (pc + 1) ls rest)) : W p l e R s m args below meth c H locs cells slots Q (F0 m pc ls (.int x :: .int (nI i) :: .ref (G 12) :: rest)) :=
  z_iast (q0 := 12) X hP (hD σ) hS rfl hi (by decide) rfl rfl hdg kk
theorem g_cA_wants {σ : cS} (X : zFx K zR_A cc p s m args c) (hP : va_P K.1 zcl (cW K G σ) H) (hdg : decode cc pc = .ok (.getfield 18, 3)) (kk : W p l e R s m args below meth c H locs cells slots Q (F0 m (pc + 3) ls (.ref (G 13) :: rest))) : W p l e R s m args below meth c H locs cells slots Q (F0 m pc ls (.ref (G 2) :: rest)) :=
  z_get (N := 9) (ci := 1) (q0 := 2) X zin_A hP rfl rfl 2 (by decide) zw_60 rfl hdg kk
theorem l_cA_wants {σ : cS} {i : Nat} (X : zFx K zR_A cc p s m args c) (hP : va_P K.1 zcl (cW K G σ) H) (hi : i < 8) (hdg : decode cc pc = .ok (.iaload, 1)) (kk : W p l e R s m args below meth c H locs cells slots Q (F0 m (pc + 1) ls (.int (cA_wants σ i) :: rest))) : W p l e R s m args below meth c H locs cells slots Q (F0 m pc ls (.int (nI i) :: .ref (G 13) :: rest)) :=
  z_iald (q0 := 13) X hP rfl hi (by decide) rfl hdg kk
theorem s_cA_wants {σ : cS} {i : Nat} {x : Int32} (X : zFx K zR_A cc p s m args c) (hD : ∀ σ, va_D A (cW K G σ)) (hP : va_P K.1 zcl (cW K G σ) H) (hS : va_S A H0 H locs) (hi : i < 8) (hdg : decode cc pc = .ok (.iastore, 1)) (kk : ∀ (H1 : Heap) (locs1 : List Loc), va_P K.1 zcl (cW K G (p_cA_wants σ (upd (cA_wants σ) i x))) H1 → va_S A H0 H1 locs1 → W p l e R s m args below meth c H1 locs1 cells slots Q (F0 m (pc + 1) ls rest)) : W p l e R s m args below meth c H locs cells slots Q (F0 m pc ls (.int x :: .int (nI i) :: .ref (G 13) :: rest)) :=
  z_iast (q0 := 13) X hP (hD σ) hS rfl hi (by decide) rfl rfl hdg kk
theorem g_cA_gives {σ : cS} (X : zFx K zR_A cc p s m args c) (hP : va_P K.1 zcl (cW K G σ) H) (hdg : decode cc pc = .ok (.getfield 21, 3)) (kk : W p l e R s m args below meth c H locs cells slots Q (F0 m (pc + 3) ls (.ref (G 14) :: rest))) : W p l e R s m args below meth c H locs cells slots Q (F0 m pc ls (.ref (G 2) :: rest)) :=
  z_get (N := 9) (ci := 1) (q0 := 2) X zin_A hP rfl rfl 3 (by decide) zw_61 rfl hdg kk
theorem l_cA_gives {σ : cS} {i : Nat} (X : zFx K zR_A cc p s m args c) (hP : va_P K.1 zcl (cW K G σ) H) (hi : i < 8) (hdg : decode cc pc = .ok (.iaload, 1)) (kk : W p l e R s m args below meth c H locs cells slots Q (F0 m (pc + 1) ls (.int (cA_gives σ i) :: rest))) : W p l e R s m args below meth c H locs cells slots Q (F0 m pc ls (.int (nI i) :: .ref (G 14) :: rest)) :=
  z_iald (q0 := 14) X hP rfl hi (by decide) rfl hdg kk
theorem s_cA_gives {σ : cS} {i : Nat} {x : Int32} (X : zFx K zR_A cc p s m args c) (hD : ∀ σ, va_D A (cW K G σ)) (hP : va_P K.1 zcl (cW K G σ) H) (hS : va_S A H0 H locs) (hi : i < 8) (hdg : decode cc pc = .ok (.iastore, 1)) (kk : ∀ (H1 : Heap) (locs1 : List Loc), va_P K.1 zcl (cW K G (p_cA_gives σ (upd (cA_gives σ) i x))) H1 → va_S A H0 H1 locs1 → W p l e R s m args below meth c H1 locs1 cells slots Q (F0 m (pc + 1) ls rest)) : W p l e R s m args below meth c H locs cells slots Q (F0 m pc ls (.int x :: .int (nI i) :: .ref (G 14) :: rest)) :=
  z_iast (q0 := 14) X hP (hD σ) hS rfl hi (by decide) rfl rfl hdg kk
theorem g_cA_names {σ : cS} (X : zFx K zR_A cc p s m args c) (hP : va_P K.1 zcl (cW K G σ) H) (hdg : decode cc pc = .ok (.getfield 24, 3)) (kk : W p l e R s m args below meth c H locs cells slots Q (F0 m (pc + 3) ls (.ref (G 15) :: rest))) : W p l e R s m args below meth c H locs cells slots Q (F0 m pc ls (.ref (G 2) :: rest)) :=
  z_get (N := 9) (ci := 1) (q0 := 2) X zin_A hP rfl rfl 4 (by decide) zw_62 rfl hdg kk
theorem l_cA_names {σ : cS} {i : Nat} (X : zFx K zR_A cc p s m args c) (hP : va_P K.1 zcl (cW K G σ) H) (hi : i < 8) (hdg : decode cc pc = .ok (.iaload, 1)) (kk : W p l e R s m args below meth c H locs cells slots Q (F0 m (pc + 1) ls (.int (cA_names σ i) :: rest))) : W p l e R s m args below meth c H locs cells slots Q (F0 m pc ls (.int (nI i) :: .ref (G 15) :: rest)) :=
  z_iald (q0 := 15) X hP rfl hi (by decide) rfl hdg kk
theorem s_cA_names {σ : cS} {i : Nat} {x : Int32} (X : zFx K zR_A cc p s m args c) (hD : ∀ σ, va_D A (cW K G σ)) (hP : va_P K.1 zcl (cW K G σ) H) (hS : va_S A H0 H locs) (hi : i < 8) (hdg : decode cc pc = .ok (.iastore, 1)) (kk : ∀ (H1 : Heap) (locs1 : List Loc), va_P K.1 zcl (cW K G (p_cA_names σ (upd (cA_names σ) i x))) H1 → va_S A H0 H1 locs1 → W p l e R s m args below meth c H1 locs1 cells slots Q (F0 m (pc + 1) ls rest)) : W p l e R s m args below meth c H locs cells slots Q (F0 m pc ls (.int x :: .int (nI i) :: .ref (G 15) :: rest)) :=
  z_iast (q0 := 15) X hP (hD σ) hS rfl hi (by decide) rfl rfl hdg kk
theorem g_cA_needs {σ : cS} (X : zFx K zR_A cc p s m args c) (hP : va_P K.1 zcl (cW K G σ) H) (hdg : decode cc pc = .ok (.getfield 27, 3)) (kk : W p l e R s m args below meth c H locs cells slots Q (F0 m (pc + 3) ls (.ref (G 16) :: rest))) : W p l e R s m args below meth c H locs cells slots Q (F0 m pc ls (.ref (G 2) :: rest)) :=
  z_get (N := 9) (ci := 1) (q0 := 2) X zin_A hP rfl rfl 5 (by decide) zw_63 rfl hdg kk
theorem l_cA_needs {σ : cS} {i : Nat} (X : zFx K zR_A cc p s m args c) (hP : va_P K.1 zcl (cW K G σ) H) (hi : i < 24) (hdg : decode cc pc = .ok (.iaload, 1)) (kk : W p l e R s m args below meth c H locs cells slots Q (F0 m (pc + 1) ls (.int (nI (cA_needs σ i)) :: rest))) : W p l e R s m args below meth c H locs cells slots Q (F0 m pc ls (.int (nI i) :: .ref (G 16) :: rest)) :=
  z_iald (q0 := 16) X hP rfl hi (by decide) rfl hdg kk
theorem s_cA_needs {σ : cS} {i x : Nat} (X : zFx K zR_A cc p s m args c) (hD : ∀ σ, va_D A (cW K G σ)) (hP : va_P K.1 zcl (cW K G σ) H) (hS : va_S A H0 H locs) (hi : i < 24) (hdg : decode cc pc = .ok (.iastore, 1)) (kk : ∀ (H1 : Heap) (locs1 : List Loc), va_P K.1 zcl (cW K G (p_cA_needs σ (upN (cA_needs σ) i x))) H1 → va_S A H0 H1 locs1 → W p l e R s m args below meth c H1 locs1 cells slots Q (F0 m (pc + 1) ls rest)) : W p l e R s m args below meth c H locs cells slots Q (F0 m pc ls (.int (nI x) :: .int (nI i) :: .ref (G 16) :: rest)) :=
  z_iast (q0 := 16) X hP (hD σ) hS rfl hi (by decide) (upN_nI _ _ _) rfl hdg kk
theorem g_cA_needCounts {σ : cS} (X : zFx K zR_A cc p s m args c) (hP : va_P K.1 zcl (cW K G σ) H) (hdg : decode cc pc = .ok (.getfield 30, 3)) (kk : W p l e R s m args below meth c H locs cells slots Q (F0 m (pc + 3) ls (.ref (G 17) :: rest))) : W p l e R s m args below meth c H locs cells slots Q (F0 m pc ls (.ref (G 2) :: rest)) :=
  z_get (N := 9) (ci := 1) (q0 := 2) X zin_A hP rfl rfl 6 (by decide) zw_64 rfl hdg kk
theorem l_cA_needCounts {σ : cS} {i : Nat} (X : zFx K zR_A cc p s m args c) (hP : va_P K.1 zcl (cW K G σ) H) (hi : i < 8) (hdg : decode cc pc = .ok (.iaload, 1)) (kk : W p l e R s m args below meth c H locs cells slots Q (F0 m (pc + 1) ls (.int (nI (cA_needCounts σ i)) :: rest))) : W p l e R s m args below meth c H locs cells slots Q (F0 m pc ls (.int (nI i) :: .ref (G 17) :: rest)) :=
  z_iald (q0 := 17) X hP rfl hi (by decide) rfl hdg kk
theorem s_cA_needCounts {σ : cS} {i x : Nat} (X : zFx K zR_A cc p s m args c) (hD : ∀ σ, va_D A (cW K G σ)) (hP : va_P K.1 zcl (cW K G σ) H) (hS : va_S A H0 H locs) (hi : i < 8) (hdg : decode cc pc = .ok (.iastore, 1)) (kk : ∀ (H1 : Heap) (locs1 : List Loc), va_P K.1 zcl (cW K G (p_cA_needCounts σ (upN (cA_needCounts σ) i x))) H1 → va_S A H0 H1 locs1 → W p l e R s m args below meth c H1 locs1 cells slots Q (F0 m (pc + 1) ls rest)) : W p l e R s m args below meth c H locs cells slots Q (F0 m pc ls (.int (nI x) :: .int (nI i) :: .ref (G 17) :: rest)) :=
  z_iast (q0 := 17) X hP (hD σ) hS rfl hi (by decide) (upN_nI _ _ _) rfl hdg kk
theorem g_cA_reached {σ : cS} (X : zFx K zR_A cc p s m args c) (hP : va_P K.1 zcl (cW K G σ) H) (hdg : decode cc pc = .ok (.getfield 33, 3)) (kk : W p l e R s m args below meth c H locs cells slots Q (F0 m (pc + 3) ls (.ref (G 18) :: rest))) : W p l e R s m args below meth c H locs cells slots Q (F0 m pc ls (.ref (G 2) :: rest)) :=
  z_get (N := 9) (ci := 1) (q0 := 2) X zin_A hP rfl rfl 7 (by decide) zw_65 rfl hdg kk
theorem l_cA_reached {σ : cS} {i : Nat} (X : zFx K zR_A cc p s m args c) (hP : va_P K.1 zcl (cW K G σ) H) (hi : i < 8) (hdg : decode cc pc = .ok (.iaload, 1)) (kk : W p l e R s m args below meth c H locs cells slots Q (F0 m (pc + 1) ls (.int (cA_reached σ i) :: rest))) : W p l e R s m args below meth c H locs cells slots Q (F0 m pc ls (.int (nI i) :: .ref (G 18) :: rest)) :=
  z_iald (q0 := 18) X hP rfl hi (by decide) rfl hdg kk
theorem s_cA_reached {σ : cS} {i : Nat} {x : Int32} (X : zFx K zR_A cc p s m args c) (hD : ∀ σ, va_D A (cW K G σ)) (hP : va_P K.1 zcl (cW K G σ) H) (hS : va_S A H0 H locs) (hi : i < 8) (hdg : decode cc pc = .ok (.iastore, 1)) (kk : ∀ (H1 : Heap) (locs1 : List Loc), va_P K.1 zcl (cW K G (p_cA_reached σ (upd (cA_reached σ) i x))) H1 → va_S A H0 H1 locs1 → W p l e R s m args below meth c H1 locs1 cells slots Q (F0 m (pc + 1) ls rest)) : W p l e R s m args below meth c H locs cells slots Q (F0 m pc ls (.int x :: .int (nI i) :: .ref (G 18) :: rest)) :=
  z_iast (q0 := 18) X hP (hD σ) hS rfl hi (by decide) rfl rfl hdg kk
theorem g_cA_opened {σ : cS} (X : zFx K zR_A cc p s m args c) (hP : va_P K.1 zcl (cW K G σ) H) (hdg : decode cc pc = .ok (.getfield 36, 3)) (kk : W p l e R s m args below meth c H locs cells slots Q (F0 m (pc + 3) ls (.int (nI (cA_opened σ)) :: rest))) : W p l e R s m args below meth c H locs cells slots Q (F0 m pc ls (.ref (G 2) :: rest)) :=
  z_get (N := 9) (ci := 1) (q0 := 2) X zin_A hP rfl rfl 8 (by decide) zw_66 rfl hdg kk
theorem s_cA_opened {σ : cS} {x : Nat} (X : zFx K zR_A cc p s m args c) (hD : ∀ σ, va_D A (cW K G σ)) (hP : va_P K.1 zcl (cW K G σ) H) (hS : va_S A H0 H locs) (hdg : decode cc pc = .ok (.putfield 36, 3)) (kk : ∀ (H1 : Heap) (locs1 : List Loc), va_P K.1 zcl (cW K G (p_cA_opened σ x)) H1 → va_S A H0 H1 locs1 → W p l e R s m args below meth c H1 locs1 cells slots Q (F0 m (pc + 3) ls rest)) : W p l e R s m args below meth c H locs cells slots Q (F0 m pc ls (.int (nI x) :: .ref (G 2) :: rest)) :=
  z_put (N := 9) (ci := 1) (q0 := 2) X zt_A zin_A zty_A znm_A hP (hD σ) hS rfl rfl 8 (by decide) zw_66 rfl rfl rfl (Nat.le_of_ble_eq_true rfl) rfl hdg kk
theorem g_cM_doneSettings {σ : cS} (X : zFx K zR_M cc p s m args c) (hP : va_P K.1 zcl (cW K G σ) H) (hdg : decode cc pc = .ok (.getfield 11, 3)) (kk : W p l e R s m args below meth c H locs cells slots Q (F0 m (pc + 3) ls (.ref (G 19) :: rest))) : W p l e R s m args below meth c H locs cells slots Q (F0 m pc ls (.ref (G 3) :: rest)) :=
  z_get (N := 7) (ci := 2) (q0 := 3) X zin_M hP rfl rfl 0 (by decide) zw_95 rfl hdg kk
theorem l_cM_doneSettings {σ : cS} {i : Nat} (X : zFx K zR_M cc p s m args c) (hP : va_P K.1 zcl (cW K G σ) H) (hi : i < 160) (hdg : decode cc pc = .ok (.iaload, 1)) (kk : W p l e R s m args below meth c H locs cells slots Q (F0 m (pc + 1) ls (.int (cM_doneSettings σ i) :: rest))) : W p l e R s m args below meth c H locs cells slots Q (F0 m pc ls (.int (nI i) :: .ref (G 19) :: rest)) :=
  z_iald (q0 := 19) X hP rfl hi (by decide) rfl hdg kk
theorem s_cM_doneSettings {σ : cS} {i : Nat} {x : Int32} (X : zFx K zR_M cc p s m args c) (hD : ∀ σ, va_D A (cW K G σ)) (hP : va_P K.1 zcl (cW K G σ) H) (hS : va_S A H0 H locs) (hi : i < 160) (hdg : decode cc pc = .ok (.iastore, 1)) (kk : ∀ (H1 : Heap) (locs1 : List Loc), va_P K.1 zcl (cW K G (p_cM_doneSettings σ (upd (cM_doneSettings σ) i x))) H1 → va_S A H0 H1 locs1 → W p l e R s m args below meth c H1 locs1 cells slots Q (F0 m (pc + 1) ls rest)) : W p l e R s m args below meth c H locs cells slots Q (F0 m pc ls (.int x :: .int (nI i) :: .ref (G 19) :: rest)) :=
  z_iast (q0 := 19) X hP (hD σ) hS rfl hi (by decide) rfl rfl hdg kk
theorem g_cM_passedSettings {σ : cS} (X : zFx K zR_M cc p s m args c) (hP : va_P K.1 zcl (cW K G σ) H) (hdg : decode cc pc = .ok (.getfield 15, 3)) (kk : W p l e R s m args below meth c H locs cells slots Q (F0 m (pc + 3) ls (.ref (G 20) :: rest))) : W p l e R s m args below meth c H locs cells slots Q (F0 m pc ls (.ref (G 3) :: rest)) :=
  z_get (N := 7) (ci := 2) (q0 := 3) X zin_M hP rfl rfl 1 (by decide) zw_96 rfl hdg kk
theorem l_cM_passedSettings {σ : cS} {i : Nat} (X : zFx K zR_M cc p s m args c) (hP : va_P K.1 zcl (cW K G σ) H) (hi : i < 160) (hdg : decode cc pc = .ok (.iaload, 1)) (kk : W p l e R s m args below meth c H locs cells slots Q (F0 m (pc + 1) ls (.int (cM_passedSettings σ i) :: rest))) : W p l e R s m args below meth c H locs cells slots Q (F0 m pc ls (.int (nI i) :: .ref (G 20) :: rest)) :=
  z_iald (q0 := 20) X hP rfl hi (by decide) rfl hdg kk
theorem s_cM_passedSettings {σ : cS} {i : Nat} {x : Int32} (X : zFx K zR_M cc p s m args c) (hD : ∀ σ, va_D A (cW K G σ)) (hP : va_P K.1 zcl (cW K G σ) H) (hS : va_S A H0 H locs) (hi : i < 160) (hdg : decode cc pc = .ok (.iastore, 1)) (kk : ∀ (H1 : Heap) (locs1 : List Loc), va_P K.1 zcl (cW K G (p_cM_passedSettings σ (upd (cM_passedSettings σ) i x))) H1 → va_S A H0 H1 locs1 → W p l e R s m args below meth c H1 locs1 cells slots Q (F0 m (pc + 1) ls rest)) : W p l e R s m args below meth c H locs cells slots Q (F0 m pc ls (.int x :: .int (nI i) :: .ref (G 20) :: rest)) :=
  z_iast (q0 := 20) X hP (hD σ) hS rfl hi (by decide) rfl rfl hdg kk
theorem g_cM_doneTimes {σ : cS} (X : zFx K zR_M cc p s m args c) (hP : va_P K.1 zcl (cW K G σ) H) (hdg : decode cc pc = .ok (.getfield 18, 3)) (kk : W p l e R s m args below meth c H locs cells slots Q (F0 m (pc + 3) ls (.ref (G 21) :: rest))) : W p l e R s m args below meth c H locs cells slots Q (F0 m pc ls (.ref (G 3) :: rest)) :=
  z_get (N := 7) (ci := 2) (q0 := 3) X zin_M hP rfl rfl 2 (by decide) zw_97 rfl hdg kk
theorem l_cM_doneTimes {σ : cS} {i : Nat} (X : zFx K zR_M cc p s m args c) (hP : va_P K.1 zcl (cW K G σ) H) (hi : i < 160) (hdg : decode cc pc = .ok (.iaload, 1)) (kk : W p l e R s m args below meth c H locs cells slots Q (F0 m (pc + 1) ls (.int (cM_doneTimes σ i) :: rest))) : W p l e R s m args below meth c H locs cells slots Q (F0 m pc ls (.int (nI i) :: .ref (G 21) :: rest)) :=
  z_iald (q0 := 21) X hP rfl hi (by decide) rfl hdg kk
theorem s_cM_doneTimes {σ : cS} {i : Nat} {x : Int32} (X : zFx K zR_M cc p s m args c) (hD : ∀ σ, va_D A (cW K G σ)) (hP : va_P K.1 zcl (cW K G σ) H) (hS : va_S A H0 H locs) (hi : i < 160) (hdg : decode cc pc = .ok (.iastore, 1)) (kk : ∀ (H1 : Heap) (locs1 : List Loc), va_P K.1 zcl (cW K G (p_cM_doneTimes σ (upd (cM_doneTimes σ) i x))) H1 → va_S A H0 H1 locs1 → W p l e R s m args below meth c H1 locs1 cells slots Q (F0 m (pc + 1) ls rest)) : W p l e R s m args below meth c H locs cells slots Q (F0 m pc ls (.int x :: .int (nI i) :: .ref (G 21) :: rest)) :=
  z_iast (q0 := 21) X hP (hD σ) hS rfl hi (by decide) rfl rfl hdg kk
theorem g_cM_results {σ : cS} (X : zFx K zR_M cc p s m args c) (hP : va_P K.1 zcl (cW K G σ) H) (hdg : decode cc pc = .ok (.getfield 21, 3)) (kk : W p l e R s m args below meth c H locs cells slots Q (F0 m (pc + 3) ls (.ref (G 22) :: rest))) : W p l e R s m args below meth c H locs cells slots Q (F0 m pc ls (.ref (G 3) :: rest)) :=
  z_get (N := 7) (ci := 2) (q0 := 3) X zin_M hP rfl rfl 3 (by decide) zw_98 rfl hdg kk
theorem l_cM_results {σ : cS} {i : Nat} (X : zFx K zR_M cc p s m args c) (hP : va_P K.1 zcl (cW K G σ) H) (hi : i < 2560) (hdg : decode cc pc = .ok (.laload, 1)) (kk : W p l e R s m args below meth c H locs cells slots Q (F0 m (pc + 1) ls (.long (cM_results σ i) :: rest))) : W p l e R s m args below meth c H locs cells slots Q (F0 m pc ls (.int (nI i) :: .ref (G 22) :: rest)) :=
  z_lald (q0 := 22) X hP rfl hi (by decide) hdg kk
theorem s_cM_results {σ : cS} {i : Nat} {x : Int64} (X : zFx K zR_M cc p s m args c) (hD : ∀ σ, va_D A (cW K G σ)) (hP : va_P K.1 zcl (cW K G σ) H) (hS : va_S A H0 H locs) (hi : i < 2560) (hdg : decode cc pc = .ok (.lastore, 1)) (kk : ∀ (H1 : Heap) (locs1 : List Loc), va_P K.1 zcl (cW K G (p_cM_results σ (vp_updL (cM_results σ) i x))) H1 → va_S A H0 H1 locs1 → W p l e R s m args below meth c H1 locs1 cells slots Q (F0 m (pc + 1) ls rest)) : W p l e R s m args below meth c H locs cells slots Q (F0 m pc ls (.long x :: .int (nI i) :: .ref (G 22) :: rest)) :=
  z_last (q0 := 22) X hP (hD σ) hS rfl hi (by decide) rfl hdg kk
theorem g_cM_makers {σ : cS} (X : zFx K zR_M cc p s m args c) (hP : va_P K.1 zcl (cW K G σ) H) (hdg : decode cc pc = .ok (.getfield 25, 3)) (kk : W p l e R s m args below meth c H locs cells slots Q (F0 m (pc + 3) ls (.ref (G 23) :: rest))) : W p l e R s m args below meth c H locs cells slots Q (F0 m pc ls (.ref (G 3) :: rest)) :=
  z_get (N := 7) (ci := 2) (q0 := 3) X zin_M hP rfl rfl 4 (by decide) zw_99 rfl hdg kk
theorem l_cM_makers {σ : cS} {i : Nat} (X : zFx K zR_M cc p s m args c) (hP : va_P K.1 zcl (cW K G σ) H) (hi : i < 200) (hdg : decode cc pc = .ok (.iaload, 1)) (kk : W p l e R s m args below meth c H locs cells slots Q (F0 m (pc + 1) ls (.int (cM_makers σ i) :: rest))) : W p l e R s m args below meth c H locs cells slots Q (F0 m pc ls (.int (nI i) :: .ref (G 23) :: rest)) :=
  z_iald (q0 := 23) X hP rfl hi (by decide) rfl hdg kk
theorem s_cM_makers {σ : cS} {i : Nat} {x : Int32} (X : zFx K zR_M cc p s m args c) (hD : ∀ σ, va_D A (cW K G σ)) (hP : va_P K.1 zcl (cW K G σ) H) (hS : va_S A H0 H locs) (hi : i < 200) (hdg : decode cc pc = .ok (.iastore, 1)) (kk : ∀ (H1 : Heap) (locs1 : List Loc), va_P K.1 zcl (cW K G (p_cM_makers σ (upd (cM_makers σ) i x))) H1 → va_S A H0 H1 locs1 → W p l e R s m args below meth c H1 locs1 cells slots Q (F0 m (pc + 1) ls rest)) : W p l e R s m args below meth c H locs cells slots Q (F0 m pc ls (.int x :: .int (nI i) :: .ref (G 23) :: rest)) :=
  z_iast (q0 := 23) X hP (hD σ) hS rfl hi (by decide) rfl rfl hdg kk
theorem g_cM_makerSettings {σ : cS} (X : zFx K zR_M cc p s m args c) (hP : va_P K.1 zcl (cW K G σ) H) (hdg : decode cc pc = .ok (.getfield 28, 3)) (kk : W p l e R s m args below meth c H locs cells slots Q (F0 m (pc + 3) ls (.ref (G 24) :: rest))) : W p l e R s m args below meth c H locs cells slots Q (F0 m pc ls (.ref (G 3) :: rest)) :=
  z_get (N := 7) (ci := 2) (q0 := 3) X zin_M hP rfl rfl 5 (by decide) zw_100 rfl hdg kk
theorem l_cM_makerSettings {σ : cS} {i : Nat} (X : zFx K zR_M cc p s m args c) (hP : va_P K.1 zcl (cW K G σ) H) (hi : i < 200) (hdg : decode cc pc = .ok (.iaload, 1)) (kk : W p l e R s m args below meth c H locs cells slots Q (F0 m (pc + 1) ls (.int (nI (cM_makerSettings σ i)) :: rest))) : W p l e R s m args below meth c H locs cells slots Q (F0 m pc ls (.int (nI i) :: .ref (G 24) :: rest)) :=
  z_iald (q0 := 24) X hP rfl hi (by decide) rfl hdg kk
theorem s_cM_makerSettings {σ : cS} {i x : Nat} (X : zFx K zR_M cc p s m args c) (hD : ∀ σ, va_D A (cW K G σ)) (hP : va_P K.1 zcl (cW K G σ) H) (hS : va_S A H0 H locs) (hi : i < 200) (hdg : decode cc pc = .ok (.iastore, 1)) (kk : ∀ (H1 : Heap) (locs1 : List Loc), va_P K.1 zcl (cW K G (p_cM_makerSettings σ (upN (cM_makerSettings σ) i x))) H1 → va_S A H0 H1 locs1 → W p l e R s m args below meth c H1 locs1 cells slots Q (F0 m (pc + 1) ls rest)) : W p l e R s m args below meth c H locs cells slots Q (F0 m pc ls (.int (nI x) :: .int (nI i) :: .ref (G 24) :: rest)) :=
  z_iast (q0 := 24) X hP (hD σ) hS rfl hi (by decide) (upN_nI _ _ _) rfl hdg kk
theorem g_cM_nowDone {σ : cS} (X : zFx K zR_M cc p s m args c) (hP : va_P K.1 zcl (cW K G σ) H) (hdg : decode cc pc = .ok (.getfield 41, 3)) (kk : W p l e R s m args below meth c H locs cells slots Q (F0 m (pc + 3) ls (.int (cM_nowDone σ) :: rest))) : W p l e R s m args below meth c H locs cells slots Q (F0 m pc ls (.ref (G 3) :: rest)) :=
  z_get (N := 7) (ci := 2) (q0 := 3) X zin_M hP rfl rfl 6 (by decide) zw_101 rfl hdg kk
theorem s_cM_nowDone {σ : cS} {x : Int32} (X : zFx K zR_M cc p s m args c) (hD : ∀ σ, va_D A (cW K G σ)) (hP : va_P K.1 zcl (cW K G σ) H) (hS : va_S A H0 H locs) (hdg : decode cc pc = .ok (.putfield 41, 3)) (kk : ∀ (H1 : Heap) (locs1 : List Loc), va_P K.1 zcl (cW K G (p_cM_nowDone σ x)) H1 → va_S A H0 H1 locs1 → W p l e R s m args below meth c H1 locs1 cells slots Q (F0 m (pc + 3) ls rest)) : W p l e R s m args below meth c H locs cells slots Q (F0 m pc ls (.int x :: .ref (G 3) :: rest)) :=
  z_put (N := 7) (ci := 2) (q0 := 3) X zt_M zin_M zty_M znm_M hP (hD σ) hS rfl rfl 6 (by decide) zw_101 rfl rfl rfl (Nat.le_of_ble_eq_true rfl) rfl hdg kk
theorem g_cW_targets {σ : cS} (X : zFx K zR_W cc p s m args c) (hP : va_P K.1 zcl (cW K G σ) H) (hdg : decode cc pc = .ok (.getfield 12, 3)) (kk : W p l e R s m args below meth c H locs cells slots Q (F0 m (pc + 3) ls (.ref (G 1) :: rest))) : W p l e R s m args below meth c H locs cells slots Q (F0 m pc ls (.ref (G 0) :: rest)) :=
  z_get (N := 4) (ci := 3) (q0 := 0) X zin_W hP rfl rfl 0 (by decide) zw_118 rfl hdg kk
theorem g_cW_aspects {σ : cS} (X : zFx K zR_W cc p s m args c) (hP : va_P K.1 zcl (cW K G σ) H) (hdg : decode cc pc = .ok (.getfield 19, 3)) (kk : W p l e R s m args below meth c H locs cells slots Q (F0 m (pc + 3) ls (.ref (G 2) :: rest))) : W p l e R s m args below meth c H locs cells slots Q (F0 m pc ls (.ref (G 0) :: rest)) :=
  z_get (N := 4) (ci := 3) (q0 := 0) X zin_W hP rfl rfl 1 (by decide) zw_119 rfl hdg kk
theorem g_cW_memory {σ : cS} (X : zFx K zR_W cc p s m args c) (hP : va_P K.1 zcl (cW K G σ) H) (hdg : decode cc pc = .ok (.getfield 26, 3)) (kk : W p l e R s m args below meth c H locs cells slots Q (F0 m (pc + 3) ls (.ref (G 3) :: rest))) : W p l e R s m args below meth c H locs cells slots Q (F0 m pc ls (.ref (G 0) :: rest)) :=
  z_get (N := 4) (ci := 3) (q0 := 0) X zin_W hP rfl rfl 2 (by decide) zw_120 rfl hdg kk
theorem g_cW_latestClash {σ : cS} (X : zFx K zR_W cc p s m args c) (hP : va_P K.1 zcl (cW K G σ) H) (hdg : decode cc pc = .ok (.getfield 30, 3)) (kk : W p l e R s m args below meth c H locs cells slots Q (F0 m (pc + 3) ls (.ref (G 4) :: rest))) : W p l e R s m args below meth c H locs cells slots Q (F0 m pc ls (.ref (G 0) :: rest)) :=
  z_get (N := 4) (ci := 3) (q0 := 0) X zin_W hP rfl rfl 3 (by decide) zw_121 rfl hdg kk
theorem l_cW_clash {σ : cS} {i : Nat} (X : zFx K zR_W cc p s m args c) (hP : va_P K.1 zcl (cW K G σ) H) (hi : i < 5) (hdg : decode cc pc = .ok (.iaload, 1)) (kk : W p l e R s m args below meth c H locs cells slots Q (F0 m (pc + 1) ls (.int (cW_clash σ i) :: rest))) : W p l e R s m args below meth c H locs cells slots Q (F0 m pc ls (.int (nI i) :: .ref (G 4) :: rest)) :=
  z_iald (q0 := 4) X hP rfl hi (by decide) rfl hdg kk
theorem s_cW_clash {σ : cS} {i : Nat} {x : Int32} (X : zFx K zR_W cc p s m args c) (hD : ∀ σ, va_D A (cW K G σ)) (hP : va_P K.1 zcl (cW K G σ) H) (hS : va_S A H0 H locs) (hi : i < 5) (hdg : decode cc pc = .ok (.iastore, 1)) (kk : ∀ (H1 : Heap) (locs1 : List Loc), va_P K.1 zcl (cW K G (p_cW_clash σ (upd (cW_clash σ) i x))) H1 → va_S A H0 H1 locs1 → W p l e R s m args below meth c H1 locs1 cells slots Q (F0 m (pc + 1) ls rest)) : W p l e R s m args below meth c H locs cells slots Q (F0 m pc ls (.int x :: .int (nI i) :: .ref (G 4) :: rest)) :=
  z_iast (q0 := 4) X hP (hD σ) hS rfl hi (by decide) rfl rfl hdg kk
end ZC
end
section
/-! the reference: its state, its world, reads and writes (by program: wip/gen/cls.py) -/
abbrev mS : Type := (Nat) × (Nat) × (Nat → Nat) × (Nat → Int64) × (Nat → Int32) × (Nat → Nat) × (Nat → Nat) × (Nat) × (Nat → Nat) × (Nat → Int32) × (Nat → Int32) × (Nat → Int32) × (Nat → Int32) × (Nat → Nat) × (Nat → Nat) × (Nat → Nat) × (Nat → Int64) × (Nat → Int32) × (Nat → Int32) × (Nat → Int32) × (Nat) × (Nat → Nat) × (Nat → Nat) × (Nat) × (Nat) × (Nat → Nat)
abbrev mR_thrown (σ : mS) : Nat := σ.1
def p_mR_thrown (σ : mS) (f : Nat) : mS := (f, σ.2.1, σ.2.2.1, σ.2.2.2.1, σ.2.2.2.2.1, σ.2.2.2.2.2.1, σ.2.2.2.2.2.2.1, σ.2.2.2.2.2.2.2.1, σ.2.2.2.2.2.2.2.2.1, σ.2.2.2.2.2.2.2.2.2.1, σ.2.2.2.2.2.2.2.2.2.2.1, σ.2.2.2.2.2.2.2.2.2.2.2.1, σ.2.2.2.2.2.2.2.2.2.2.2.2.1, σ.2.2.2.2.2.2.2.2.2.2.2.2.2.1, σ.2.2.2.2.2.2.2.2.2.2.2.2.2.2.1, σ.2.2.2.2.2.2.2.2.2.2.2.2.2.2.2.1, σ.2.2.2.2.2.2.2.2.2.2.2.2.2.2.2.2.1, σ.2.2.2.2.2.2.2.2.2.2.2.2.2.2.2.2.2.1, σ.2.2.2.2.2.2.2.2.2.2.2.2.2.2.2.2.2.2.1, σ.2.2.2.2.2.2.2.2.2.2.2.2.2.2.2.2.2.2.2.1, σ.2.2.2.2.2.2.2.2.2.2.2.2.2.2.2.2.2.2.2.2.1, σ.2.2.2.2.2.2.2.2.2.2.2.2.2.2.2.2.2.2.2.2.2.1, σ.2.2.2.2.2.2.2.2.2.2.2.2.2.2.2.2.2.2.2.2.2.2.1, σ.2.2.2.2.2.2.2.2.2.2.2.2.2.2.2.2.2.2.2.2.2.2.2.1, σ.2.2.2.2.2.2.2.2.2.2.2.2.2.2.2.2.2.2.2.2.2.2.2.2.1, σ.2.2.2.2.2.2.2.2.2.2.2.2.2.2.2.2.2.2.2.2.2.2.2.2.2)
abbrev mR_targets (σ : mS) : Nat := σ.2.1
def p_mR_targets (σ : mS) (f : Nat) : mS := (σ.1, f, σ.2.2.1, σ.2.2.2.1, σ.2.2.2.2.1, σ.2.2.2.2.2.1, σ.2.2.2.2.2.2.1, σ.2.2.2.2.2.2.2.1, σ.2.2.2.2.2.2.2.2.1, σ.2.2.2.2.2.2.2.2.2.1, σ.2.2.2.2.2.2.2.2.2.2.1, σ.2.2.2.2.2.2.2.2.2.2.2.1, σ.2.2.2.2.2.2.2.2.2.2.2.2.1, σ.2.2.2.2.2.2.2.2.2.2.2.2.2.1, σ.2.2.2.2.2.2.2.2.2.2.2.2.2.2.1, σ.2.2.2.2.2.2.2.2.2.2.2.2.2.2.2.1, σ.2.2.2.2.2.2.2.2.2.2.2.2.2.2.2.2.1, σ.2.2.2.2.2.2.2.2.2.2.2.2.2.2.2.2.2.1, σ.2.2.2.2.2.2.2.2.2.2.2.2.2.2.2.2.2.2.1, σ.2.2.2.2.2.2.2.2.2.2.2.2.2.2.2.2.2.2.2.1, σ.2.2.2.2.2.2.2.2.2.2.2.2.2.2.2.2.2.2.2.2.1, σ.2.2.2.2.2.2.2.2.2.2.2.2.2.2.2.2.2.2.2.2.2.1, σ.2.2.2.2.2.2.2.2.2.2.2.2.2.2.2.2.2.2.2.2.2.2.1, σ.2.2.2.2.2.2.2.2.2.2.2.2.2.2.2.2.2.2.2.2.2.2.2.1, σ.2.2.2.2.2.2.2.2.2.2.2.2.2.2.2.2.2.2.2.2.2.2.2.2.1, σ.2.2.2.2.2.2.2.2.2.2.2.2.2.2.2.2.2.2.2.2.2.2.2.2.2)
abbrev mR_standsFor (σ : mS) : Nat → Nat := σ.2.2.1
def p_mR_standsFor (σ : mS) (f : Nat → Nat) : mS := (σ.1, σ.2.1, f, σ.2.2.2.1, σ.2.2.2.2.1, σ.2.2.2.2.2.1, σ.2.2.2.2.2.2.1, σ.2.2.2.2.2.2.2.1, σ.2.2.2.2.2.2.2.2.1, σ.2.2.2.2.2.2.2.2.2.1, σ.2.2.2.2.2.2.2.2.2.2.1, σ.2.2.2.2.2.2.2.2.2.2.2.1, σ.2.2.2.2.2.2.2.2.2.2.2.2.1, σ.2.2.2.2.2.2.2.2.2.2.2.2.2.1, σ.2.2.2.2.2.2.2.2.2.2.2.2.2.2.1, σ.2.2.2.2.2.2.2.2.2.2.2.2.2.2.2.1, σ.2.2.2.2.2.2.2.2.2.2.2.2.2.2.2.2.1, σ.2.2.2.2.2.2.2.2.2.2.2.2.2.2.2.2.2.1, σ.2.2.2.2.2.2.2.2.2.2.2.2.2.2.2.2.2.2.1, σ.2.2.2.2.2.2.2.2.2.2.2.2.2.2.2.2.2.2.2.1, σ.2.2.2.2.2.2.2.2.2.2.2.2.2.2.2.2.2.2.2.2.1, σ.2.2.2.2.2.2.2.2.2.2.2.2.2.2.2.2.2.2.2.2.2.1, σ.2.2.2.2.2.2.2.2.2.2.2.2.2.2.2.2.2.2.2.2.2.2.1, σ.2.2.2.2.2.2.2.2.2.2.2.2.2.2.2.2.2.2.2.2.2.2.2.1, σ.2.2.2.2.2.2.2.2.2.2.2.2.2.2.2.2.2.2.2.2.2.2.2.2.1, σ.2.2.2.2.2.2.2.2.2.2.2.2.2.2.2.2.2.2.2.2.2.2.2.2.2)
abbrev mR_value (σ : mS) : Nat → Int64 := σ.2.2.2.1
def p_mR_value (σ : mS) (f : Nat → Int64) : mS := (σ.1, σ.2.1, σ.2.2.1, f, σ.2.2.2.2.1, σ.2.2.2.2.2.1, σ.2.2.2.2.2.2.1, σ.2.2.2.2.2.2.2.1, σ.2.2.2.2.2.2.2.2.1, σ.2.2.2.2.2.2.2.2.2.1, σ.2.2.2.2.2.2.2.2.2.2.1, σ.2.2.2.2.2.2.2.2.2.2.2.1, σ.2.2.2.2.2.2.2.2.2.2.2.2.1, σ.2.2.2.2.2.2.2.2.2.2.2.2.2.1, σ.2.2.2.2.2.2.2.2.2.2.2.2.2.2.1, σ.2.2.2.2.2.2.2.2.2.2.2.2.2.2.2.1, σ.2.2.2.2.2.2.2.2.2.2.2.2.2.2.2.2.1, σ.2.2.2.2.2.2.2.2.2.2.2.2.2.2.2.2.2.1, σ.2.2.2.2.2.2.2.2.2.2.2.2.2.2.2.2.2.2.1, σ.2.2.2.2.2.2.2.2.2.2.2.2.2.2.2.2.2.2.2.1, σ.2.2.2.2.2.2.2.2.2.2.2.2.2.2.2.2.2.2.2.2.1, σ.2.2.2.2.2.2.2.2.2.2.2.2.2.2.2.2.2.2.2.2.2.1, σ.2.2.2.2.2.2.2.2.2.2.2.2.2.2.2.2.2.2.2.2.2.2.1, σ.2.2.2.2.2.2.2.2.2.2.2.2.2.2.2.2.2.2.2.2.2.2.2.1, σ.2.2.2.2.2.2.2.2.2.2.2.2.2.2.2.2.2.2.2.2.2.2.2.2.1, σ.2.2.2.2.2.2.2.2.2.2.2.2.2.2.2.2.2.2.2.2.2.2.2.2.2)
abbrev mR_providers (σ : mS) : Nat → Int32 := σ.2.2.2.2.1
def p_mR_providers (σ : mS) (f : Nat → Int32) : mS := (σ.1, σ.2.1, σ.2.2.1, σ.2.2.2.1, f, σ.2.2.2.2.2.1, σ.2.2.2.2.2.2.1, σ.2.2.2.2.2.2.2.1, σ.2.2.2.2.2.2.2.2.1, σ.2.2.2.2.2.2.2.2.2.1, σ.2.2.2.2.2.2.2.2.2.2.1, σ.2.2.2.2.2.2.2.2.2.2.2.1, σ.2.2.2.2.2.2.2.2.2.2.2.2.1, σ.2.2.2.2.2.2.2.2.2.2.2.2.2.1, σ.2.2.2.2.2.2.2.2.2.2.2.2.2.2.1, σ.2.2.2.2.2.2.2.2.2.2.2.2.2.2.2.1, σ.2.2.2.2.2.2.2.2.2.2.2.2.2.2.2.2.1, σ.2.2.2.2.2.2.2.2.2.2.2.2.2.2.2.2.2.1, σ.2.2.2.2.2.2.2.2.2.2.2.2.2.2.2.2.2.2.1, σ.2.2.2.2.2.2.2.2.2.2.2.2.2.2.2.2.2.2.2.1, σ.2.2.2.2.2.2.2.2.2.2.2.2.2.2.2.2.2.2.2.2.1, σ.2.2.2.2.2.2.2.2.2.2.2.2.2.2.2.2.2.2.2.2.2.1, σ.2.2.2.2.2.2.2.2.2.2.2.2.2.2.2.2.2.2.2.2.2.2.1, σ.2.2.2.2.2.2.2.2.2.2.2.2.2.2.2.2.2.2.2.2.2.2.2.1, σ.2.2.2.2.2.2.2.2.2.2.2.2.2.2.2.2.2.2.2.2.2.2.2.2.1, σ.2.2.2.2.2.2.2.2.2.2.2.2.2.2.2.2.2.2.2.2.2.2.2.2.2)
abbrev mR_rowSize (σ : mS) : Nat → Nat := σ.2.2.2.2.2.1
def p_mR_rowSize (σ : mS) (f : Nat → Nat) : mS := (σ.1, σ.2.1, σ.2.2.1, σ.2.2.2.1, σ.2.2.2.2.1, f, σ.2.2.2.2.2.2.1, σ.2.2.2.2.2.2.2.1, σ.2.2.2.2.2.2.2.2.1, σ.2.2.2.2.2.2.2.2.2.1, σ.2.2.2.2.2.2.2.2.2.2.1, σ.2.2.2.2.2.2.2.2.2.2.2.1, σ.2.2.2.2.2.2.2.2.2.2.2.2.1, σ.2.2.2.2.2.2.2.2.2.2.2.2.2.1, σ.2.2.2.2.2.2.2.2.2.2.2.2.2.2.1, σ.2.2.2.2.2.2.2.2.2.2.2.2.2.2.2.1, σ.2.2.2.2.2.2.2.2.2.2.2.2.2.2.2.2.1, σ.2.2.2.2.2.2.2.2.2.2.2.2.2.2.2.2.2.1, σ.2.2.2.2.2.2.2.2.2.2.2.2.2.2.2.2.2.2.1, σ.2.2.2.2.2.2.2.2.2.2.2.2.2.2.2.2.2.2.2.1, σ.2.2.2.2.2.2.2.2.2.2.2.2.2.2.2.2.2.2.2.2.1, σ.2.2.2.2.2.2.2.2.2.2.2.2.2.2.2.2.2.2.2.2.2.1, σ.2.2.2.2.2.2.2.2.2.2.2.2.2.2.2.2.2.2.2.2.2.2.1, σ.2.2.2.2.2.2.2.2.2.2.2.2.2.2.2.2.2.2.2.2.2.2.2.1, σ.2.2.2.2.2.2.2.2.2.2.2.2.2.2.2.2.2.2.2.2.2.2.2.2.1, σ.2.2.2.2.2.2.2.2.2.2.2.2.2.2.2.2.2.2.2.2.2.2.2.2.2)
abbrev mR_row (σ : mS) : Nat → Nat := σ.2.2.2.2.2.2.1
def p_mR_row (σ : mS) (f : Nat → Nat) : mS := (σ.1, σ.2.1, σ.2.2.1, σ.2.2.2.1, σ.2.2.2.2.1, σ.2.2.2.2.2.1, f, σ.2.2.2.2.2.2.2.1, σ.2.2.2.2.2.2.2.2.1, σ.2.2.2.2.2.2.2.2.2.1, σ.2.2.2.2.2.2.2.2.2.2.1, σ.2.2.2.2.2.2.2.2.2.2.2.1, σ.2.2.2.2.2.2.2.2.2.2.2.2.1, σ.2.2.2.2.2.2.2.2.2.2.2.2.2.1, σ.2.2.2.2.2.2.2.2.2.2.2.2.2.2.1, σ.2.2.2.2.2.2.2.2.2.2.2.2.2.2.2.1, σ.2.2.2.2.2.2.2.2.2.2.2.2.2.2.2.2.1, σ.2.2.2.2.2.2.2.2.2.2.2.2.2.2.2.2.2.1, σ.2.2.2.2.2.2.2.2.2.2.2.2.2.2.2.2.2.2.1, σ.2.2.2.2.2.2.2.2.2.2.2.2.2.2.2.2.2.2.2.1, σ.2.2.2.2.2.2.2.2.2.2.2.2.2.2.2.2.2.2.2.2.1, σ.2.2.2.2.2.2.2.2.2.2.2.2.2.2.2.2.2.2.2.2.2.1, σ.2.2.2.2.2.2.2.2.2.2.2.2.2.2.2.2.2.2.2.2.2.2.1, σ.2.2.2.2.2.2.2.2.2.2.2.2.2.2.2.2.2.2.2.2.2.2.2.1, σ.2.2.2.2.2.2.2.2.2.2.2.2.2.2.2.2.2.2.2.2.2.2.2.2.1, σ.2.2.2.2.2.2.2.2.2.2.2.2.2.2.2.2.2.2.2.2.2.2.2.2.2)
abbrev mR_aspects (σ : mS) : Nat := σ.2.2.2.2.2.2.2.1
def p_mR_aspects (σ : mS) (f : Nat) : mS := (σ.1, σ.2.1, σ.2.2.1, σ.2.2.2.1, σ.2.2.2.2.1, σ.2.2.2.2.2.1, σ.2.2.2.2.2.2.1, f, σ.2.2.2.2.2.2.2.2.1, σ.2.2.2.2.2.2.2.2.2.1, σ.2.2.2.2.2.2.2.2.2.2.1, σ.2.2.2.2.2.2.2.2.2.2.2.1, σ.2.2.2.2.2.2.2.2.2.2.2.2.1, σ.2.2.2.2.2.2.2.2.2.2.2.2.2.1, σ.2.2.2.2.2.2.2.2.2.2.2.2.2.2.1, σ.2.2.2.2.2.2.2.2.2.2.2.2.2.2.2.1, σ.2.2.2.2.2.2.2.2.2.2.2.2.2.2.2.2.1, σ.2.2.2.2.2.2.2.2.2.2.2.2.2.2.2.2.2.1, σ.2.2.2.2.2.2.2.2.2.2.2.2.2.2.2.2.2.2.1, σ.2.2.2.2.2.2.2.2.2.2.2.2.2.2.2.2.2.2.2.1, σ.2.2.2.2.2.2.2.2.2.2.2.2.2.2.2.2.2.2.2.2.1, σ.2.2.2.2.2.2.2.2.2.2.2.2.2.2.2.2.2.2.2.2.2.1, σ.2.2.2.2.2.2.2.2.2.2.2.2.2.2.2.2.2.2.2.2.2.2.1, σ.2.2.2.2.2.2.2.2.2.2.2.2.2.2.2.2.2.2.2.2.2.2.2.1, σ.2.2.2.2.2.2.2.2.2.2.2.2.2.2.2.2.2.2.2.2.2.2.2.2.1, σ.2.2.2.2.2.2.2.2.2.2.2.2.2.2.2.2.2.2.2.2.2.2.2.2.2)
abbrev mR_kind (σ : mS) : Nat → Nat := σ.2.2.2.2.2.2.2.2.1
def p_mR_kind (σ : mS) (f : Nat → Nat) : mS := (σ.1, σ.2.1, σ.2.2.1, σ.2.2.2.1, σ.2.2.2.2.1, σ.2.2.2.2.2.1, σ.2.2.2.2.2.2.1, σ.2.2.2.2.2.2.2.1, f, σ.2.2.2.2.2.2.2.2.2.1, σ.2.2.2.2.2.2.2.2.2.2.1, σ.2.2.2.2.2.2.2.2.2.2.2.1, σ.2.2.2.2.2.2.2.2.2.2.2.2.1, σ.2.2.2.2.2.2.2.2.2.2.2.2.2.1, σ.2.2.2.2.2.2.2.2.2.2.2.2.2.2.1, σ.2.2.2.2.2.2.2.2.2.2.2.2.2.2.2.1, σ.2.2.2.2.2.2.2.2.2.2.2.2.2.2.2.2.1, σ.2.2.2.2.2.2.2.2.2.2.2.2.2.2.2.2.2.1, σ.2.2.2.2.2.2.2.2.2.2.2.2.2.2.2.2.2.2.1, σ.2.2.2.2.2.2.2.2.2.2.2.2.2.2.2.2.2.2.2.1, σ.2.2.2.2.2.2.2.2.2.2.2.2.2.2.2.2.2.2.2.2.1, σ.2.2.2.2.2.2.2.2.2.2.2.2.2.2.2.2.2.2.2.2.2.1, σ.2.2.2.2.2.2.2.2.2.2.2.2.2.2.2.2.2.2.2.2.2.2.1, σ.2.2.2.2.2.2.2.2.2.2.2.2.2.2.2.2.2.2.2.2.2.2.2.1, σ.2.2.2.2.2.2.2.2.2.2.2.2.2.2.2.2.2.2.2.2.2.2.2.2.1, σ.2.2.2.2.2.2.2.2.2.2.2.2.2.2.2.2.2.2.2.2.2.2.2.2.2)
abbrev mR_along (σ : mS) : Nat → Int32 := σ.2.2.2.2.2.2.2.2.2.1
def p_mR_along (σ : mS) (f : Nat → Int32) : mS := (σ.1, σ.2.1, σ.2.2.1, σ.2.2.2.1, σ.2.2.2.2.1, σ.2.2.2.2.2.1, σ.2.2.2.2.2.2.1, σ.2.2.2.2.2.2.2.1, σ.2.2.2.2.2.2.2.2.1, f, σ.2.2.2.2.2.2.2.2.2.2.1, σ.2.2.2.2.2.2.2.2.2.2.2.1, σ.2.2.2.2.2.2.2.2.2.2.2.2.1, σ.2.2.2.2.2.2.2.2.2.2.2.2.2.1, σ.2.2.2.2.2.2.2.2.2.2.2.2.2.2.1, σ.2.2.2.2.2.2.2.2.2.2.2.2.2.2.2.1, σ.2.2.2.2.2.2.2.2.2.2.2.2.2.2.2.2.1, σ.2.2.2.2.2.2.2.2.2.2.2.2.2.2.2.2.2.1, σ.2.2.2.2.2.2.2.2.2.2.2.2.2.2.2.2.2.2.1, σ.2.2.2.2.2.2.2.2.2.2.2.2.2.2.2.2.2.2.2.1, σ.2.2.2.2.2.2.2.2.2.2.2.2.2.2.2.2.2.2.2.2.1, σ.2.2.2.2.2.2.2.2.2.2.2.2.2.2.2.2.2.2.2.2.2.1, σ.2.2.2.2.2.2.2.2.2.2.2.2.2.2.2.2.2.2.2.2.2.2.1, σ.2.2.2.2.2.2.2.2.2.2.2.2.2.2.2.2.2.2.2.2.2.2.2.1, σ.2.2.2.2.2.2.2.2.2.2.2.2.2.2.2.2.2.2.2.2.2.2.2.2.1, σ.2.2.2.2.2.2.2.2.2.2.2.2.2.2.2.2.2.2.2.2.2.2.2.2.2)
abbrev mR_wants (σ : mS) : Nat → Int32 := σ.2.2.2.2.2.2.2.2.2.2.1
def p_mR_wants (σ : mS) (f : Nat → Int32) : mS := (σ.1, σ.2.1, σ.2.2.1, σ.2.2.2.1, σ.2.2.2.2.1, σ.2.2.2.2.2.1, σ.2.2.2.2.2.2.1, σ.2.2.2.2.2.2.2.1, σ.2.2.2.2.2.2.2.2.1, σ.2.2.2.2.2.2.2.2.2.1, f, σ.2.2.2.2.2.2.2.2.2.2.2.1, σ.2.2.2.2.2.2.2.2.2.2.2.2.1, σ.2.2.2.2.2.2.2.2.2.2.2.2.2.1, σ.2.2.2.2.2.2.2.2.2.2.2.2.2.2.1, σ.2.2.2.2.2.2.2.2.2.2.2.2.2.2.2.1, σ.2.2.2.2.2.2.2.2.2.2.2.2.2.2.2.2.1, σ.2.2.2.2.2.2.2.2.2.2.2.2.2.2.2.2.2.1, σ.2.2.2.2.2.2.2.2.2.2.2.2.2.2.2.2.2.2.1, σ.2.2.2.2.2.2.2.2.2.2.2.2.2.2.2.2.2.2.2.1, σ.2.2.2.2.2.2.2.2.2.2.2.2.2.2.2.2.2.2.2.2.1, σ.2.2.2.2.2.2.2.2.2.2.2.2.2.2.2.2.2.2.2.2.2.1, σ.2.2.2.2.2.2.2.2.2.2.2.2.2.2.2.2.2.2.2.2.2.2.1, σ.2.2.2.2.2.2.2.2.2.2.2.2.2.2.2.2.2.2.2.2.2.2.2.1, σ.2.2.2.2.2.2.2.2.2.2.2.2.2.2.2.2.2.2.2.2.2.2.2.2.1, σ.2.2.2.2.2.2.2.2.2.2.2.2.2.2.2.2.2.2.2.2.2.2.2.2.2)
abbrev mR_gives (σ : mS) : Nat → Int32 := σ.2.2.2.2.2.2.2.2.2.2.2.1
def p_mR_gives (σ : mS) (f : Nat → Int32) : mS := (σ.1, σ.2.1, σ.2.2.1, σ.2.2.2.1, σ.2.2.2.2.1, σ.2.2.2.2.2.1, σ.2.2.2.2.2.2.1, σ.2.2.2.2.2.2.2.1, σ.2.2.2.2.2.2.2.2.1, σ.2.2.2.2.2.2.2.2.2.1, σ.2.2.2.2.2.2.2.2.2.2.1, f, σ.2.2.2.2.2.2.2.2.2.2.2.2.1, σ.2.2.2.2.2.2.2.2.2.2.2.2.2.1, σ.2.2.2.2.2.2.2.2.2.2.2.2.2.2.1, σ.2.2.2.2.2.2.2.2.2.2.2.2.2.2.2.1, σ.2.2.2.2.2.2.2.2.2.2.2.2.2.2.2.2.1, σ.2.2.2.2.2.2.2.2.2.2.2.2.2.2.2.2.2.1, σ.2.2.2.2.2.2.2.2.2.2.2.2.2.2.2.2.2.2.1, σ.2.2.2.2.2.2.2.2.2.2.2.2.2.2.2.2.2.2.2.1, σ.2.2.2.2.2.2.2.2.2.2.2.2.2.2.2.2.2.2.2.2.1, σ.2.2.2.2.2.2.2.2.2.2.2.2.2.2.2.2.2.2.2.2.2.1, σ.2.2.2.2.2.2.2.2.2.2.2.2.2.2.2.2.2.2.2.2.2.2.1, σ.2.2.2.2.2.2.2.2.2.2.2.2.2.2.2.2.2.2.2.2.2.2.2.1, σ.2.2.2.2.2.2.2.2.2.2.2.2.2.2.2.2.2.2.2.2.2.2.2.2.1, σ.2.2.2.2.2.2.2.2.2.2.2.2.2.2.2.2.2.2.2.2.2.2.2.2.2)
abbrev mR_nameOf (σ : mS) : Nat → Int32 := σ.2.2.2.2.2.2.2.2.2.2.2.2.1
def p_mR_nameOf (σ : mS) (f : Nat → Int32) : mS := (σ.1, σ.2.1, σ.2.2.1, σ.2.2.2.1, σ.2.2.2.2.1, σ.2.2.2.2.2.1, σ.2.2.2.2.2.2.1, σ.2.2.2.2.2.2.2.1, σ.2.2.2.2.2.2.2.2.1, σ.2.2.2.2.2.2.2.2.2.1, σ.2.2.2.2.2.2.2.2.2.2.1, σ.2.2.2.2.2.2.2.2.2.2.2.1, f, σ.2.2.2.2.2.2.2.2.2.2.2.2.2.1, σ.2.2.2.2.2.2.2.2.2.2.2.2.2.2.1, σ.2.2.2.2.2.2.2.2.2.2.2.2.2.2.2.1, σ.2.2.2.2.2.2.2.2.2.2.2.2.2.2.2.2.1, σ.2.2.2.2.2.2.2.2.2.2.2.2.2.2.2.2.2.1, σ.2.2.2.2.2.2.2.2.2.2.2.2.2.2.2.2.2.2.1, σ.2.2.2.2.2.2.2.2.2.2.2.2.2.2.2.2.2.2.2.1, σ.2.2.2.2.2.2.2.2.2.2.2.2.2.2.2.2.2.2.2.2.1, σ.2.2.2.2.2.2.2.2.2.2.2.2.2.2.2.2.2.2.2.2.2.1, σ.2.2.2.2.2.2.2.2.2.2.2.2.2.2.2.2.2.2.2.2.2.2.1, σ.2.2.2.2.2.2.2.2.2.2.2.2.2.2.2.2.2.2.2.2.2.2.2.1, σ.2.2.2.2.2.2.2.2.2.2.2.2.2.2.2.2.2.2.2.2.2.2.2.2.1, σ.2.2.2.2.2.2.2.2.2.2.2.2.2.2.2.2.2.2.2.2.2.2.2.2.2)
abbrev mR_needMany (σ : mS) : Nat → Nat := σ.2.2.2.2.2.2.2.2.2.2.2.2.2.1
def p_mR_needMany (σ : mS) (f : Nat → Nat) : mS := (σ.1, σ.2.1, σ.2.2.1, σ.2.2.2.1, σ.2.2.2.2.1, σ.2.2.2.2.2.1, σ.2.2.2.2.2.2.1, σ.2.2.2.2.2.2.2.1, σ.2.2.2.2.2.2.2.2.1, σ.2.2.2.2.2.2.2.2.2.1, σ.2.2.2.2.2.2.2.2.2.2.1, σ.2.2.2.2.2.2.2.2.2.2.2.1, σ.2.2.2.2.2.2.2.2.2.2.2.2.1, f, σ.2.2.2.2.2.2.2.2.2.2.2.2.2.2.1, σ.2.2.2.2.2.2.2.2.2.2.2.2.2.2.2.1, σ.2.2.2.2.2.2.2.2.2.2.2.2.2.2.2.2.1, σ.2.2.2.2.2.2.2.2.2.2.2.2.2.2.2.2.2.1, σ.2.2.2.2.2.2.2.2.2.2.2.2.2.2.2.2.2.2.1, σ.2.2.2.2.2.2.2.2.2.2.2.2.2.2.2.2.2.2.2.1, σ.2.2.2.2.2.2.2.2.2.2.2.2.2.2.2.2.2.2.2.2.1, σ.2.2.2.2.2.2.2.2.2.2.2.2.2.2.2.2.2.2.2.2.2.1, σ.2.2.2.2.2.2.2.2.2.2.2.2.2.2.2.2.2.2.2.2.2.2.1, σ.2.2.2.2.2.2.2.2.2.2.2.2.2.2.2.2.2.2.2.2.2.2.2.1, σ.2.2.2.2.2.2.2.2.2.2.2.2.2.2.2.2.2.2.2.2.2.2.2.2.1, σ.2.2.2.2.2.2.2.2.2.2.2.2.2.2.2.2.2.2.2.2.2.2.2.2.2)
abbrev mR_needs (σ : mS) : Nat → Nat := σ.2.2.2.2.2.2.2.2.2.2.2.2.2.2.1
def p_mR_needs (σ : mS) (f : Nat → Nat) : mS := (σ.1, σ.2.1, σ.2.2.1, σ.2.2.2.1, σ.2.2.2.2.1, σ.2.2.2.2.2.1, σ.2.2.2.2.2.2.1, σ.2.2.2.2.2.2.2.1, σ.2.2.2.2.2.2.2.2.1, σ.2.2.2.2.2.2.2.2.2.1, σ.2.2.2.2.2.2.2.2.2.2.1, σ.2.2.2.2.2.2.2.2.2.2.2.1, σ.2.2.2.2.2.2.2.2.2.2.2.2.1, σ.2.2.2.2.2.2.2.2.2.2.2.2.2.1, f, σ.2.2.2.2.2.2.2.2.2.2.2.2.2.2.2.1, σ.2.2.2.2.2.2.2.2.2.2.2.2.2.2.2.2.1, σ.2.2.2.2.2.2.2.2.2.2.2.2.2.2.2.2.2.1, σ.2.2.2.2.2.2.2.2.2.2.2.2.2.2.2.2.2.2.1, σ.2.2.2.2.2.2.2.2.2.2.2.2.2.2.2.2.2.2.2.1, σ.2.2.2.2.2.2.2.2.2.2.2.2.2.2.2.2.2.2.2.2.1, σ.2.2.2.2.2.2.2.2.2.2.2.2.2.2.2.2.2.2.2.2.2.1, σ.2.2.2.2.2.2.2.2.2.2.2.2.2.2.2.2.2.2.2.2.2.2.1, σ.2.2.2.2.2.2.2.2.2.2.2.2.2.2.2.2.2.2.2.2.2.2.2.1, σ.2.2.2.2.2.2.2.2.2.2.2.2.2.2.2.2.2.2.2.2.2.2.2.2.1, σ.2.2.2.2.2.2.2.2.2.2.2.2.2.2.2.2.2.2.2.2.2.2.2.2.2)
abbrev mR_known (σ : mS) : Nat → Nat := σ.2.2.2.2.2.2.2.2.2.2.2.2.2.2.2.1
def p_mR_known (σ : mS) (f : Nat → Nat) : mS := (σ.1, σ.2.1, σ.2.2.1, σ.2.2.2.1, σ.2.2.2.2.1, σ.2.2.2.2.2.1, σ.2.2.2.2.2.2.1, σ.2.2.2.2.2.2.2.1, σ.2.2.2.2.2.2.2.2.1, σ.2.2.2.2.2.2.2.2.2.1, σ.2.2.2.2.2.2.2.2.2.2.1, σ.2.2.2.2.2.2.2.2.2.2.2.1, σ.2.2.2.2.2.2.2.2.2.2.2.2.1, σ.2.2.2.2.2.2.2.2.2.2.2.2.2.1, σ.2.2.2.2.2.2.2.2.2.2.2.2.2.2.1, f, σ.2.2.2.2.2.2.2.2.2.2.2.2.2.2.2.2.1, σ.2.2.2.2.2.2.2.2.2.2.2.2.2.2.2.2.2.1, σ.2.2.2.2.2.2.2.2.2.2.2.2.2.2.2.2.2.2.1, σ.2.2.2.2.2.2.2.2.2.2.2.2.2.2.2.2.2.2.2.1, σ.2.2.2.2.2.2.2.2.2.2.2.2.2.2.2.2.2.2.2.2.1, σ.2.2.2.2.2.2.2.2.2.2.2.2.2.2.2.2.2.2.2.2.2.1, σ.2.2.2.2.2.2.2.2.2.2.2.2.2.2.2.2.2.2.2.2.2.2.1, σ.2.2.2.2.2.2.2.2.2.2.2.2.2.2.2.2.2.2.2.2.2.2.2.1, σ.2.2.2.2.2.2.2.2.2.2.2.2.2.2.2.2.2.2.2.2.2.2.2.2.1, σ.2.2.2.2.2.2.2.2.2.2.2.2.2.2.2.2.2.2.2.2.2.2.2.2.2)
abbrev mR_results (σ : mS) : Nat → Int64 := σ.2.2.2.2.2.2.2.2.2.2.2.2.2.2.2.2.1
def p_mR_results (σ : mS) (f : Nat → Int64) : mS := (σ.1, σ.2.1, σ.2.2.1, σ.2.2.2.1, σ.2.2.2.2.1, σ.2.2.2.2.2.1, σ.2.2.2.2.2.2.1, σ.2.2.2.2.2.2.2.1, σ.2.2.2.2.2.2.2.2.1, σ.2.2.2.2.2.2.2.2.2.1, σ.2.2.2.2.2.2.2.2.2.2.1, σ.2.2.2.2.2.2.2.2.2.2.2.1, σ.2.2.2.2.2.2.2.2.2.2.2.2.1, σ.2.2.2.2.2.2.2.2.2.2.2.2.2.1, σ.2.2.2.2.2.2.2.2.2.2.2.2.2.2.1, σ.2.2.2.2.2.2.2.2.2.2.2.2.2.2.2.1, f, σ.2.2.2.2.2.2.2.2.2.2.2.2.2.2.2.2.2.1, σ.2.2.2.2.2.2.2.2.2.2.2.2.2.2.2.2.2.2.1, σ.2.2.2.2.2.2.2.2.2.2.2.2.2.2.2.2.2.2.2.1, σ.2.2.2.2.2.2.2.2.2.2.2.2.2.2.2.2.2.2.2.2.1, σ.2.2.2.2.2.2.2.2.2.2.2.2.2.2.2.2.2.2.2.2.2.1, σ.2.2.2.2.2.2.2.2.2.2.2.2.2.2.2.2.2.2.2.2.2.2.1, σ.2.2.2.2.2.2.2.2.2.2.2.2.2.2.2.2.2.2.2.2.2.2.2.1, σ.2.2.2.2.2.2.2.2.2.2.2.2.2.2.2.2.2.2.2.2.2.2.2.2.1, σ.2.2.2.2.2.2.2.2.2.2.2.2.2.2.2.2.2.2.2.2.2.2.2.2.2)
abbrev mR_times (σ : mS) : Nat → Int32 := σ.2.2.2.2.2.2.2.2.2.2.2.2.2.2.2.2.2.1
def p_mR_times (σ : mS) (f : Nat → Int32) : mS := (σ.1, σ.2.1, σ.2.2.1, σ.2.2.2.1, σ.2.2.2.2.1, σ.2.2.2.2.2.1, σ.2.2.2.2.2.2.1, σ.2.2.2.2.2.2.2.1, σ.2.2.2.2.2.2.2.2.1, σ.2.2.2.2.2.2.2.2.2.1, σ.2.2.2.2.2.2.2.2.2.2.1, σ.2.2.2.2.2.2.2.2.2.2.2.1, σ.2.2.2.2.2.2.2.2.2.2.2.2.1, σ.2.2.2.2.2.2.2.2.2.2.2.2.2.1, σ.2.2.2.2.2.2.2.2.2.2.2.2.2.2.1, σ.2.2.2.2.2.2.2.2.2.2.2.2.2.2.2.1, σ.2.2.2.2.2.2.2.2.2.2.2.2.2.2.2.2.1, f, σ.2.2.2.2.2.2.2.2.2.2.2.2.2.2.2.2.2.2.1, σ.2.2.2.2.2.2.2.2.2.2.2.2.2.2.2.2.2.2.2.1, σ.2.2.2.2.2.2.2.2.2.2.2.2.2.2.2.2.2.2.2.2.1, σ.2.2.2.2.2.2.2.2.2.2.2.2.2.2.2.2.2.2.2.2.2.1, σ.2.2.2.2.2.2.2.2.2.2.2.2.2.2.2.2.2.2.2.2.2.2.1, σ.2.2.2.2.2.2.2.2.2.2.2.2.2.2.2.2.2.2.2.2.2.2.2.1, σ.2.2.2.2.2.2.2.2.2.2.2.2.2.2.2.2.2.2.2.2.2.2.2.2.1, σ.2.2.2.2.2.2.2.2.2.2.2.2.2.2.2.2.2.2.2.2.2.2.2.2.2)
abbrev mR_madeBy (σ : mS) : Nat → Int32 := σ.2.2.2.2.2.2.2.2.2.2.2.2.2.2.2.2.2.2.1
def p_mR_madeBy (σ : mS) (f : Nat → Int32) : mS := (σ.1, σ.2.1, σ.2.2.1, σ.2.2.2.1, σ.2.2.2.2.1, σ.2.2.2.2.2.1, σ.2.2.2.2.2.2.1, σ.2.2.2.2.2.2.2.1, σ.2.2.2.2.2.2.2.2.1, σ.2.2.2.2.2.2.2.2.2.1, σ.2.2.2.2.2.2.2.2.2.2.1, σ.2.2.2.2.2.2.2.2.2.2.2.1, σ.2.2.2.2.2.2.2.2.2.2.2.2.1, σ.2.2.2.2.2.2.2.2.2.2.2.2.2.1, σ.2.2.2.2.2.2.2.2.2.2.2.2.2.2.1, σ.2.2.2.2.2.2.2.2.2.2.2.2.2.2.2.1, σ.2.2.2.2.2.2.2.2.2.2.2.2.2.2.2.2.1, σ.2.2.2.2.2.2.2.2.2.2.2.2.2.2.2.2.2.1, f, σ.2.2.2.2.2.2.2.2.2.2.2.2.2.2.2.2.2.2.2.1, σ.2.2.2.2.2.2.2.2.2.2.2.2.2.2.2.2.2.2.2.2.1, σ.2.2.2.2.2.2.2.2.2.2.2.2.2.2.2.2.2.2.2.2.2.1, σ.2.2.2.2.2.2.2.2.2.2.2.2.2.2.2.2.2.2.2.2.2.2.1, σ.2.2.2.2.2.2.2.2.2.2.2.2.2.2.2.2.2.2.2.2.2.2.2.1, σ.2.2.2.2.2.2.2.2.2.2.2.2.2.2.2.2.2.2.2.2.2.2.2.2.1, σ.2.2.2.2.2.2.2.2.2.2.2.2.2.2.2.2.2.2.2.2.2.2.2.2.2)
abbrev mR_clashTold (σ : mS) : Nat → Int32 := σ.2.2.2.2.2.2.2.2.2.2.2.2.2.2.2.2.2.2.2.1
def p_mR_clashTold (σ : mS) (f : Nat → Int32) : mS := (σ.1, σ.2.1, σ.2.2.1, σ.2.2.2.1, σ.2.2.2.2.1, σ.2.2.2.2.2.1, σ.2.2.2.2.2.2.1, σ.2.2.2.2.2.2.2.1, σ.2.2.2.2.2.2.2.2.1, σ.2.2.2.2.2.2.2.2.2.1, σ.2.2.2.2.2.2.2.2.2.2.1, σ.2.2.2.2.2.2.2.2.2.2.2.1, σ.2.2.2.2.2.2.2.2.2.2.2.2.1, σ.2.2.2.2.2.2.2.2.2.2.2.2.2.1, σ.2.2.2.2.2.2.2.2.2.2.2.2.2.2.1, σ.2.2.2.2.2.2.2.2.2.2.2.2.2.2.2.1, σ.2.2.2.2.2.2.2.2.2.2.2.2.2.2.2.2.1, σ.2.2.2.2.2.2.2.2.2.2.2.2.2.2.2.2.2.1, σ.2.2.2.2.2.2.2.2.2.2.2.2.2.2.2.2.2.2.1, f, σ.2.2.2.2.2.2.2.2.2.2.2.2.2.2.2.2.2.2.2.2.1, σ.2.2.2.2.2.2.2.2.2.2.2.2.2.2.2.2.2.2.2.2.2.1, σ.2.2.2.2.2.2.2.2.2.2.2.2.2.2.2.2.2.2.2.2.2.2.1, σ.2.2.2.2.2.2.2.2.2.2.2.2.2.2.2.2.2.2.2.2.2.2.2.1, σ.2.2.2.2.2.2.2.2.2.2.2.2.2.2.2.2.2.2.2.2.2.2.2.2.1, σ.2.2.2.2.2.2.2.2.2.2.2.2.2.2.2.2.2.2.2.2.2.2.2.2.2)
abbrev mR_heap (σ : mS) : Nat := σ.2.2.2.2.2.2.2.2.2.2.2.2.2.2.2.2.2.2.2.2.1
def p_mR_heap (σ : mS) (f : Nat) : mS := (σ.1, σ.2.1, σ.2.2.1, σ.2.2.2.1, σ.2.2.2.2.1, σ.2.2.2.2.2.1, σ.2.2.2.2.2.2.1, σ.2.2.2.2.2.2.2.1, σ.2.2.2.2.2.2.2.2.1, σ.2.2.2.2.2.2.2.2.2.1, σ.2.2.2.2.2.2.2.2.2.2.1, σ.2.2.2.2.2.2.2.2.2.2.2.1, σ.2.2.2.2.2.2.2.2.2.2.2.2.1, σ.2.2.2.2.2.2.2.2.2.2.2.2.2.1, σ.2.2.2.2.2.2.2.2.2.2.2.2.2.2.1, σ.2.2.2.2.2.2.2.2.2.2.2.2.2.2.2.1, σ.2.2.2.2.2.2.2.2.2.2.2.2.2.2.2.2.1, σ.2.2.2.2.2.2.2.2.2.2.2.2.2.2.2.2.2.1, σ.2.2.2.2.2.2.2.2.2.2.2.2.2.2.2.2.2.2.1, σ.2.2.2.2.2.2.2.2.2.2.2.2.2.2.2.2.2.2.2.1, f, σ.2.2.2.2.2.2.2.2.2.2.2.2.2.2.2.2.2.2.2.2.2.1, σ.2.2.2.2.2.2.2.2.2.2.2.2.2.2.2.2.2.2.2.2.2.2.1, σ.2.2.2.2.2.2.2.2.2.2.2.2.2.2.2.2.2.2.2.2.2.2.2.1, σ.2.2.2.2.2.2.2.2.2.2.2.2.2.2.2.2.2.2.2.2.2.2.2.2.1, σ.2.2.2.2.2.2.2.2.2.2.2.2.2.2.2.2.2.2.2.2.2.2.2.2.2)
abbrev mR_heapTarget (σ : mS) : Nat → Nat := σ.2.2.2.2.2.2.2.2.2.2.2.2.2.2.2.2.2.2.2.2.2.1
def p_mR_heapTarget (σ : mS) (f : Nat → Nat) : mS := (σ.1, σ.2.1, σ.2.2.1, σ.2.2.2.1, σ.2.2.2.2.1, σ.2.2.2.2.2.1, σ.2.2.2.2.2.2.1, σ.2.2.2.2.2.2.2.1, σ.2.2.2.2.2.2.2.2.1, σ.2.2.2.2.2.2.2.2.2.1, σ.2.2.2.2.2.2.2.2.2.2.1, σ.2.2.2.2.2.2.2.2.2.2.2.1, σ.2.2.2.2.2.2.2.2.2.2.2.2.1, σ.2.2.2.2.2.2.2.2.2.2.2.2.2.1, σ.2.2.2.2.2.2.2.2.2.2.2.2.2.2.1, σ.2.2.2.2.2.2.2.2.2.2.2.2.2.2.2.1, σ.2.2.2.2.2.2.2.2.2.2.2.2.2.2.2.2.1, σ.2.2.2.2.2.2.2.2.2.2.2.2.2.2.2.2.2.1, σ.2.2.2.2.2.2.2.2.2.2.2.2.2.2.2.2.2.2.1, σ.2.2.2.2.2.2.2.2.2.2.2.2.2.2.2.2.2.2.2.1, σ.2.2.2.2.2.2.2.2.2.2.2.2.2.2.2.2.2.2.2.2.1, f, σ.2.2.2.2.2.2.2.2.2.2.2.2.2.2.2.2.2.2.2.2.2.2.1, σ.2.2.2.2.2.2.2.2.2.2.2.2.2.2.2.2.2.2.2.2.2.2.2.1, σ.2.2.2.2.2.2.2.2.2.2.2.2.2.2.2.2.2.2.2.2.2.2.2.2.1, σ.2.2.2.2.2.2.2.2.2.2.2.2.2.2.2.2.2.2.2.2.2.2.2.2.2)
abbrev mR_heapAspect (σ : mS) : Nat → Nat := σ.2.2.2.2.2.2.2.2.2.2.2.2.2.2.2.2.2.2.2.2.2.2.1
def p_mR_heapAspect (σ : mS) (f : Nat → Nat) : mS := (σ.1, σ.2.1, σ.2.2.1, σ.2.2.2.1, σ.2.2.2.2.1, σ.2.2.2.2.2.1, σ.2.2.2.2.2.2.1, σ.2.2.2.2.2.2.2.1, σ.2.2.2.2.2.2.2.2.1, σ.2.2.2.2.2.2.2.2.2.1, σ.2.2.2.2.2.2.2.2.2.2.1, σ.2.2.2.2.2.2.2.2.2.2.2.1, σ.2.2.2.2.2.2.2.2.2.2.2.2.1, σ.2.2.2.2.2.2.2.2.2.2.2.2.2.1, σ.2.2.2.2.2.2.2.2.2.2.2.2.2.2.1, σ.2.2.2.2.2.2.2.2.2.2.2.2.2.2.2.1, σ.2.2.2.2.2.2.2.2.2.2.2.2.2.2.2.2.1, σ.2.2.2.2.2.2.2.2.2.2.2.2.2.2.2.2.2.1, σ.2.2.2.2.2.2.2.2.2.2.2.2.2.2.2.2.2.2.1, σ.2.2.2.2.2.2.2.2.2.2.2.2.2.2.2.2.2.2.2.1, σ.2.2.2.2.2.2.2.2.2.2.2.2.2.2.2.2.2.2.2.2.1, σ.2.2.2.2.2.2.2.2.2.2.2.2.2.2.2.2.2.2.2.2.2.1, f, σ.2.2.2.2.2.2.2.2.2.2.2.2.2.2.2.2.2.2.2.2.2.2.2.1, σ.2.2.2.2.2.2.2.2.2.2.2.2.2.2.2.2.2.2.2.2.2.2.2.2.1, σ.2.2.2.2.2.2.2.2.2.2.2.2.2.2.2.2.2.2.2.2.2.2.2.2.2)
abbrev mR_setting (σ : mS) : Nat := σ.2.2.2.2.2.2.2.2.2.2.2.2.2.2.2.2.2.2.2.2.2.2.2.1
def p_mR_setting (σ : mS) (f : Nat) : mS := (σ.1, σ.2.1, σ.2.2.1, σ.2.2.2.1, σ.2.2.2.2.1, σ.2.2.2.2.2.1, σ.2.2.2.2.2.2.1, σ.2.2.2.2.2.2.2.1, σ.2.2.2.2.2.2.2.2.1, σ.2.2.2.2.2.2.2.2.2.1, σ.2.2.2.2.2.2.2.2.2.2.1, σ.2.2.2.2.2.2.2.2.2.2.2.1, σ.2.2.2.2.2.2.2.2.2.2.2.2.1, σ.2.2.2.2.2.2.2.2.2.2.2.2.2.1, σ.2.2.2.2.2.2.2.2.2.2.2.2.2.2.1, σ.2.2.2.2.2.2.2.2.2.2.2.2.2.2.2.1, σ.2.2.2.2.2.2.2.2.2.2.2.2.2.2.2.2.1, σ.2.2.2.2.2.2.2.2.2.2.2.2.2.2.2.2.2.1, σ.2.2.2.2.2.2.2.2.2.2.2.2.2.2.2.2.2.2.1, σ.2.2.2.2.2.2.2.2.2.2.2.2.2.2.2.2.2.2.2.1, σ.2.2.2.2.2.2.2.2.2.2.2.2.2.2.2.2.2.2.2.2.1, σ.2.2.2.2.2.2.2.2.2.2.2.2.2.2.2.2.2.2.2.2.2.1, σ.2.2.2.2.2.2.2.2.2.2.2.2.2.2.2.2.2.2.2.2.2.2.1, f, σ.2.2.2.2.2.2.2.2.2.2.2.2.2.2.2.2.2.2.2.2.2.2.2.2.1, σ.2.2.2.2.2.2.2.2.2.2.2.2.2.2.2.2.2.2.2.2.2.2.2.2.2)
abbrev mR_clashes (σ : mS) : Nat := σ.2.2.2.2.2.2.2.2.2.2.2.2.2.2.2.2.2.2.2.2.2.2.2.2.1
def p_mR_clashes (σ : mS) (f : Nat) : mS := (σ.1, σ.2.1, σ.2.2.1, σ.2.2.2.1, σ.2.2.2.2.1, σ.2.2.2.2.2.1, σ.2.2.2.2.2.2.1, σ.2.2.2.2.2.2.2.1, σ.2.2.2.2.2.2.2.2.1, σ.2.2.2.2.2.2.2.2.2.1, σ.2.2.2.2.2.2.2.2.2.2.1, σ.2.2.2.2.2.2.2.2.2.2.2.1, σ.2.2.2.2.2.2.2.2.2.2.2.2.1, σ.2.2.2.2.2.2.2.2.2.2.2.2.2.1, σ.2.2.2.2.2.2.2.2.2.2.2.2.2.2.1, σ.2.2.2.2.2.2.2.2.2.2.2.2.2.2.2.1, σ.2.2.2.2.2.2.2.2.2.2.2.2.2.2.2.2.1, σ.2.2.2.2.2.2.2.2.2.2.2.2.2.2.2.2.2.1, σ.2.2.2.2.2.2.2.2.2.2.2.2.2.2.2.2.2.2.1, σ.2.2.2.2.2.2.2.2.2.2.2.2.2.2.2.2.2.2.2.1, σ.2.2.2.2.2.2.2.2.2.2.2.2.2.2.2.2.2.2.2.2.1, σ.2.2.2.2.2.2.2.2.2.2.2.2.2.2.2.2.2.2.2.2.2.1, σ.2.2.2.2.2.2.2.2.2.2.2.2.2.2.2.2.2.2.2.2.2.2.1, σ.2.2.2.2.2.2.2.2.2.2.2.2.2.2.2.2.2.2.2.2.2.2.2.1, f, σ.2.2.2.2.2.2.2.2.2.2.2.2.2.2.2.2.2.2.2.2.2.2.2.2.2)
abbrev mR_touched (σ : mS) : Nat → Nat := σ.2.2.2.2.2.2.2.2.2.2.2.2.2.2.2.2.2.2.2.2.2.2.2.2.2
def p_mR_touched (σ : mS) (f : Nat → Nat) : mS := (σ.1, σ.2.1, σ.2.2.1, σ.2.2.2.1, σ.2.2.2.2.1, σ.2.2.2.2.2.1, σ.2.2.2.2.2.2.1, σ.2.2.2.2.2.2.2.1, σ.2.2.2.2.2.2.2.2.1, σ.2.2.2.2.2.2.2.2.2.1, σ.2.2.2.2.2.2.2.2.2.2.1, σ.2.2.2.2.2.2.2.2.2.2.2.1, σ.2.2.2.2.2.2.2.2.2.2.2.2.1, σ.2.2.2.2.2.2.2.2.2.2.2.2.2.1, σ.2.2.2.2.2.2.2.2.2.2.2.2.2.2.1, σ.2.2.2.2.2.2.2.2.2.2.2.2.2.2.2.1, σ.2.2.2.2.2.2.2.2.2.2.2.2.2.2.2.2.1, σ.2.2.2.2.2.2.2.2.2.2.2.2.2.2.2.2.2.1, σ.2.2.2.2.2.2.2.2.2.2.2.2.2.2.2.2.2.2.1, σ.2.2.2.2.2.2.2.2.2.2.2.2.2.2.2.2.2.2.2.1, σ.2.2.2.2.2.2.2.2.2.2.2.2.2.2.2.2.2.2.2.2.1, σ.2.2.2.2.2.2.2.2.2.2.2.2.2.2.2.2.2.2.2.2.2.1, σ.2.2.2.2.2.2.2.2.2.2.2.2.2.2.2.2.2.2.2.2.2.2.1, σ.2.2.2.2.2.2.2.2.2.2.2.2.2.2.2.2.2.2.2.2.2.2.2.1, σ.2.2.2.2.2.2.2.2.2.2.2.2.2.2.2.2.2.2.2.2.2.2.2.2.1, f)
def mW (K : zK) (G : Nat → Nat) (σ : mS) : va_W := [
  (G 0, .inr (4, [.int (nI (mR_thrown σ)), .int (nI (mR_targets σ)), .ref (G 1), .ref (G 2), .ref (G 3), .ref (G 4), .ref (G 5), .int (nI (mR_aspects σ)), .ref (G 6), .ref (G 7), .ref (G 8), .ref (G 9), .ref (G 10), .ref (G 11), .ref (G 12), .ref (G 13), .ref (G 14), .ref (G 15), .ref (G 16), .ref (G 17), .int (nI (mR_heap σ)), .ref (G 18), .ref (G 19), .int (nI (mR_setting σ)), .int (nI (mR_clashes σ)), .ref (G 20)])),
  (G 1, .inl (K.2.1, 20, .inl (fun j => nI ((mR_standsFor σ) j)))),
  (G 2, .inl (K.2.2.1, 20, .inr (.inl (mR_value σ)))),
  (G 3, .inl (K.2.1, 20, .inl (mR_providers σ))),
  (G 4, .inl (K.2.1, 60, .inl (fun j => nI ((mR_rowSize σ) j)))),
  (G 5, .inl (K.2.1, 240, .inl (fun j => nI ((mR_row σ) j)))),
  (G 6, .inl (K.2.1, 8, .inl (fun j => nI ((mR_kind σ) j)))),
  (G 7, .inl (K.2.1, 8, .inl (mR_along σ))),
  (G 8, .inl (K.2.1, 8, .inl (mR_wants σ))),
  (G 9, .inl (K.2.1, 8, .inl (mR_gives σ))),
  (G 10, .inl (K.2.1, 8, .inl (mR_nameOf σ))),
  (G 11, .inl (K.2.1, 8, .inl (fun j => nI ((mR_needMany σ) j)))),
  (G 12, .inl (K.2.1, 24, .inl (fun j => nI ((mR_needs σ) j)))),
  (G 13, .inl (K.2.1, 2560, .inl (fun j => nI ((mR_known σ) j)))),
  (G 14, .inl (K.2.2.1, 2560, .inr (.inl (mR_results σ)))),
  (G 15, .inl (K.2.1, 160, .inl (mR_times σ))),
  (G 16, .inl (K.2.1, 200, .inl (mR_madeBy σ))),
  (G 17, .inl (K.2.1, 5, .inl (mR_clashTold σ))),
  (G 18, .inl (K.2.1, 170, .inl (fun j => nI ((mR_heapTarget σ) j)))),
  (G 19, .inl (K.2.1, 170, .inl (fun j => nI ((mR_heapAspect σ) j)))),
  (G 20, .inl (K.2.2.2, 20, .inl (fun j => nI ((mR_touched σ) j))))]
section ZM
variable {p : Program} {l : Launch} {e : Env} {R : Room} {s : State} {m : MethodId} {args : Array Value} {below : List Frame} {meth : Method} {c : Code} {H : Heap} {locs : List Loc} {cells slots : Nat} {Q : State → Prop}
variable {K : zK} {cc : ByteArray} {pc : Nat} {ls : Array Slot} {rest : List Value} {A : Nat → Prop} {H0 : Heap} {G : Nat → Nat}
theorem g_mR_thrown {σ : mS} (X : zFx K zR_R cc p s m args c) (hP : va_P K.1 zcl (mW K G σ) H) (hdg : decode cc pc = .ok (.getfield 72, 3)) (kk : W p l e R s m args below meth c H locs cells slots Q (F0 m (pc + 3) ls (.int (nI (mR_thrown σ)) :: rest))) : W p l e R s m args below meth c H locs cells slots Q (F0 m pc ls (.ref (G 0) :: rest)) :=
  z_get (N := 26) (ci := 4) (q0 := 0) X zin_R hP rfl rfl 0 (by decide) zw_494 rfl hdg kk
theorem s_mR_thrown {σ : mS} {x : Nat} (X : zFx K zR_R cc p s m args c) (hD : ∀ σ, va_D A (mW K G σ)) (hP : va_P K.1 zcl (mW K G σ) H) (hS : va_S A H0 H locs) (hdg : decode cc pc = .ok (.putfield 72, 3)) (kk : ∀ (H1 : Heap) (locs1 : List Loc), va_P K.1 zcl (mW K G (p_mR_thrown σ x)) H1 → va_S A H0 H1 locs1 → W p l e R s m args below meth c H1 locs1 cells slots Q (F0 m (pc + 3) ls rest)) : W p l e R s m args below meth c H locs cells slots Q (F0 m pc ls (.int (nI x) :: .ref (G 0) :: rest)) :=
  z_put (N := 26) (ci := 4) (q0 := 0) X zt_R zin_R zty_R znm_R hP (hD σ) hS rfl rfl 0 (by decide) zw_494 rfl rfl rfl (Nat.le_of_ble_eq_true rfl) rfl hdg kk
theorem g_mR_targets {σ : mS} (X : zFx K zR_R cc p s m args c) (hP : va_P K.1 zcl (mW K G σ) H) (hdg : decode cc pc = .ok (.getfield 76, 3)) (kk : W p l e R s m args below meth c H locs cells slots Q (F0 m (pc + 3) ls (.int (nI (mR_targets σ)) :: rest))) : W p l e R s m args below meth c H locs cells slots Q (F0 m pc ls (.ref (G 0) :: rest)) :=
  z_get (N := 26) (ci := 4) (q0 := 0) X zin_R hP rfl rfl 1 (by decide) zw_495 rfl hdg kk
theorem s_mR_targets {σ : mS} {x : Nat} (X : zFx K zR_R cc p s m args c) (hD : ∀ σ, va_D A (mW K G σ)) (hP : va_P K.1 zcl (mW K G σ) H) (hS : va_S A H0 H locs) (hdg : decode cc pc = .ok (.putfield 76, 3)) (kk : ∀ (H1 : Heap) (locs1 : List Loc), va_P K.1 zcl (mW K G (p_mR_targets σ x)) H1 → va_S A H0 H1 locs1 → W p l e R s m args below meth c H1 locs1 cells slots Q (F0 m (pc + 3) ls rest)) : W p l e R s m args below meth c H locs cells slots Q (F0 m pc ls (.int (nI x) :: .ref (G 0) :: rest)) :=
  z_put (N := 26) (ci := 4) (q0 := 0) X zt_R zin_R zty_R znm_R hP (hD σ) hS rfl rfl 1 (by decide) zw_495 rfl rfl rfl (Nat.le_of_ble_eq_true rfl) rfl hdg kk
theorem g_mR_standsFor {σ : mS} (X : zFx K zR_R cc p s m args c) (hP : va_P K.1 zcl (mW K G σ) H) (hdg : decode cc pc = .ok (.getfield 7, 3)) (kk : W p l e R s m args below meth c H locs cells slots Q (F0 m (pc + 3) ls (.ref (G 1) :: rest))) : W p l e R s m args below meth c H locs cells slots Q (F0 m pc ls (.ref (G 0) :: rest)) :=
  z_get (N := 26) (ci := 4) (q0 := 0) X zin_R hP rfl rfl 2 (by decide) zw_496 rfl hdg kk
theorem l_mR_standsFor {σ : mS} {i : Nat} (X : zFx K zR_R cc p s m args c) (hP : va_P K.1 zcl (mW K G σ) H) (hi : i < 20) (hdg : decode cc pc = .ok (.iaload, 1)) (kk : W p l e R s m args below meth c H locs cells slots Q (F0 m (pc + 1) ls (.int (nI (mR_standsFor σ i)) :: rest))) : W p l e R s m args below meth c H locs cells slots Q (F0 m pc ls (.int (nI i) :: .ref (G 1) :: rest)) :=
  z_iald (q0 := 1) X hP rfl hi (by decide) rfl hdg kk
theorem s_mR_standsFor {σ : mS} {i x : Nat} (X : zFx K zR_R cc p s m args c) (hD : ∀ σ, va_D A (mW K G σ)) (hP : va_P K.1 zcl (mW K G σ) H) (hS : va_S A H0 H locs) (hi : i < 20) (hdg : decode cc pc = .ok (.iastore, 1)) (kk : ∀ (H1 : Heap) (locs1 : List Loc), va_P K.1 zcl (mW K G (p_mR_standsFor σ (upN (mR_standsFor σ) i x))) H1 → va_S A H0 H1 locs1 → W p l e R s m args below meth c H1 locs1 cells slots Q (F0 m (pc + 1) ls rest)) : W p l e R s m args below meth c H locs cells slots Q (F0 m pc ls (.int (nI x) :: .int (nI i) :: .ref (G 1) :: rest)) :=
  z_iast (q0 := 1) X hP (hD σ) hS rfl hi (by decide) (upN_nI _ _ _) rfl hdg kk
theorem g_mR_value {σ : mS} (X : zFx K zR_R cc p s m args c) (hP : va_P K.1 zcl (mW K G σ) H) (hdg : decode cc pc = .ok (.getfield 13, 3)) (kk : W p l e R s m args below meth c H locs cells slots Q (F0 m (pc + 3) ls (.ref (G 2) :: rest))) : W p l e R s m args below meth c H locs cells slots Q (F0 m pc ls (.ref (G 0) :: rest)) :=
  z_get (N := 26) (ci := 4) (q0 := 0) X zin_R hP rfl rfl 3 (by decide) zw_497 rfl hdg kk
theorem l_mR_value {σ : mS} {i : Nat} (X : zFx K zR_R cc p s m args c) (hP : va_P K.1 zcl (mW K G σ) H) (hi : i < 20) (hdg : decode cc pc = .ok (.laload, 1)) (kk : W p l e R s m args below meth c H locs cells slots Q (F0 m (pc + 1) ls (.long (mR_value σ i) :: rest))) : W p l e R s m args below meth c H locs cells slots Q (F0 m pc ls (.int (nI i) :: .ref (G 2) :: rest)) :=
  z_lald (q0 := 2) X hP rfl hi (by decide) hdg kk
theorem s_mR_value {σ : mS} {i : Nat} {x : Int64} (X : zFx K zR_R cc p s m args c) (hD : ∀ σ, va_D A (mW K G σ)) (hP : va_P K.1 zcl (mW K G σ) H) (hS : va_S A H0 H locs) (hi : i < 20) (hdg : decode cc pc = .ok (.lastore, 1)) (kk : ∀ (H1 : Heap) (locs1 : List Loc), va_P K.1 zcl (mW K G (p_mR_value σ (vp_updL (mR_value σ) i x))) H1 → va_S A H0 H1 locs1 → W p l e R s m args below meth c H1 locs1 cells slots Q (F0 m (pc + 1) ls rest)) : W p l e R s m args below meth c H locs cells slots Q (F0 m pc ls (.long x :: .int (nI i) :: .ref (G 2) :: rest)) :=
  z_last (q0 := 2) X hP (hD σ) hS rfl hi (by decide) rfl hdg kk
theorem g_mR_providers {σ : mS} (X : zFx K zR_R cc p s m args c) (hP : va_P K.1 zcl (mW K G σ) H) (hdg : decode cc pc = .ok (.getfield 17, 3)) (kk : W p l e R s m args below meth c H locs cells slots Q (F0 m (pc + 3) ls (.ref (G 3) :: rest))) : W p l e R s m args below meth c H locs cells slots Q (F0 m pc ls (.ref (G 0) :: rest)) :=
  z_get (N := 26) (ci := 4) (q0 := 0) X zin_R hP rfl rfl 4 (by decide) zw_498 rfl hdg kk
theorem l_mR_providers {σ : mS} {i : Nat} (X : zFx K zR_R cc p s m args c) (hP : va_P K.1 zcl (mW K G σ) H) (hi : i < 20) (hdg : decode cc pc = .ok (.iaload, 1)) (kk : W p l e R s m args below meth c H locs cells slots Q (F0 m (pc + 1) ls (.int (mR_providers σ i) :: rest))) : W p l e R s m args below meth c H locs cells slots Q (F0 m pc ls (.int (nI i) :: .ref (G 3) :: rest)) :=
  z_iald (q0 := 3) X hP rfl hi (by decide) rfl hdg kk
theorem s_mR_providers {σ : mS} {i : Nat} {x : Int32} (X : zFx K zR_R cc p s m args c) (hD : ∀ σ, va_D A (mW K G σ)) (hP : va_P K.1 zcl (mW K G σ) H) (hS : va_S A H0 H locs) (hi : i < 20) (hdg : decode cc pc = .ok (.iastore, 1)) (kk : ∀ (H1 : Heap) (locs1 : List Loc), va_P K.1 zcl (mW K G (p_mR_providers σ (upd (mR_providers σ) i x))) H1 → va_S A H0 H1 locs1 → W p l e R s m args below meth c H1 locs1 cells slots Q (F0 m (pc + 1) ls rest)) : W p l e R s m args below meth c H locs cells slots Q (F0 m pc ls (.int x :: .int (nI i) :: .ref (G 3) :: rest)) :=
  z_iast (q0 := 3) X hP (hD σ) hS rfl hi (by decide) rfl rfl hdg kk
theorem g_mR_rowSize {σ : mS} (X : zFx K zR_R cc p s m args c) (hP : va_P K.1 zcl (mW K G σ) H) (hdg : decode cc pc = .ok (.getfield 20, 3)) (kk : W p l e R s m args below meth c H locs cells slots Q (F0 m (pc + 3) ls (.ref (G 4) :: rest))) : W p l e R s m args below meth c H locs cells slots Q (F0 m pc ls (.ref (G 0) :: rest)) :=
  z_get (N := 26) (ci := 4) (q0 := 0) X zin_R hP rfl rfl 5 (by decide) zw_499 rfl hdg kk
theorem l_mR_rowSize {σ : mS} {i : Nat} (X : zFx K zR_R cc p s m args c) (hP : va_P K.1 zcl (mW K G σ) H) (hi : i < 60) (hdg : decode cc pc = .ok (.iaload, 1)) (kk : W p l e R s m args below meth c H locs cells slots Q (F0 m (pc + 1) ls (.int (nI (mR_rowSize σ i)) :: rest))) : W p l e R s m args below meth c H locs cells slots Q (F0 m pc ls (.int (nI i) :: .ref (G 4) :: rest)) :=
  z_iald (q0 := 4) X hP rfl hi (by decide) rfl hdg kk
theorem s_mR_rowSize {σ : mS} {i x : Nat} (X : zFx K zR_R cc p s m args c) (hD : ∀ σ, va_D A (mW K G σ)) (hP : va_P K.1 zcl (mW K G σ) H) (hS : va_S A H0 H locs) (hi : i < 60) (hdg : decode cc pc = .ok (.iastore, 1)) (kk : ∀ (H1 : Heap) (locs1 : List Loc), va_P K.1 zcl (mW K G (p_mR_rowSize σ (upN (mR_rowSize σ) i x))) H1 → va_S A H0 H1 locs1 → W p l e R s m args below meth c H1 locs1 cells slots Q (F0 m (pc + 1) ls rest)) : W p l e R s m args below meth c H locs cells slots Q (F0 m pc ls (.int (nI x) :: .int (nI i) :: .ref (G 4) :: rest)) :=
  z_iast (q0 := 4) X hP (hD σ) hS rfl hi (by decide) (upN_nI _ _ _) rfl hdg kk
theorem g_mR_row {σ : mS} (X : zFx K zR_R cc p s m args c) (hP : va_P K.1 zcl (mW K G σ) H) (hdg : decode cc pc = .ok (.getfield 23, 3)) (kk : W p l e R s m args below meth c H locs cells slots Q (F0 m (pc + 3) ls (.ref (G 5) :: rest))) : W p l e R s m args below meth c H locs cells slots Q (F0 m pc ls (.ref (G 0) :: rest)) :=
  z_get (N := 26) (ci := 4) (q0 := 0) X zin_R hP rfl rfl 6 (by decide) zw_500 rfl hdg kk
theorem l_mR_row {σ : mS} {i : Nat} (X : zFx K zR_R cc p s m args c) (hP : va_P K.1 zcl (mW K G σ) H) (hi : i < 240) (hdg : decode cc pc = .ok (.iaload, 1)) (kk : W p l e R s m args below meth c H locs cells slots Q (F0 m (pc + 1) ls (.int (nI (mR_row σ i)) :: rest))) : W p l e R s m args below meth c H locs cells slots Q (F0 m pc ls (.int (nI i) :: .ref (G 5) :: rest)) :=
  z_iald (q0 := 5) X hP rfl hi (by decide) rfl hdg kk
theorem s_mR_row {σ : mS} {i x : Nat} (X : zFx K zR_R cc p s m args c) (hD : ∀ σ, va_D A (mW K G σ)) (hP : va_P K.1 zcl (mW K G σ) H) (hS : va_S A H0 H locs) (hi : i < 240) (hdg : decode cc pc = .ok (.iastore, 1)) (kk : ∀ (H1 : Heap) (locs1 : List Loc), va_P K.1 zcl (mW K G (p_mR_row σ (upN (mR_row σ) i x))) H1 → va_S A H0 H1 locs1 → W p l e R s m args below meth c H1 locs1 cells slots Q (F0 m (pc + 1) ls rest)) : W p l e R s m args below meth c H locs cells slots Q (F0 m pc ls (.int (nI x) :: .int (nI i) :: .ref (G 5) :: rest)) :=
  z_iast (q0 := 5) X hP (hD σ) hS rfl hi (by decide) (upN_nI _ _ _) rfl hdg kk
theorem g_mR_aspects {σ : mS} (X : zFx K zR_R cc p s m args c) (hP : va_P K.1 zcl (mW K G σ) H) (hdg : decode cc pc = .ok (.getfield 79, 3)) (kk : W p l e R s m args below meth c H locs cells slots Q (F0 m (pc + 3) ls (.int (nI (mR_aspects σ)) :: rest))) : W p l e R s m args below meth c H locs cells slots Q (F0 m pc ls (.ref (G 0) :: rest)) :=
  z_get (N := 26) (ci := 4) (q0 := 0) X zin_R hP rfl rfl 7 (by decide) zw_501 rfl hdg kk
theorem s_mR_aspects {σ : mS} {x : Nat} (X : zFx K zR_R cc p s m args c) (hD : ∀ σ, va_D A (mW K G σ)) (hP : va_P K.1 zcl (mW K G σ) H) (hS : va_S A H0 H locs) (hdg : decode cc pc = .ok (.putfield 79, 3)) (kk : ∀ (H1 : Heap) (locs1 : List Loc), va_P K.1 zcl (mW K G (p_mR_aspects σ x)) H1 → va_S A H0 H1 locs1 → W p l e R s m args below meth c H1 locs1 cells slots Q (F0 m (pc + 3) ls rest)) : W p l e R s m args below meth c H locs cells slots Q (F0 m pc ls (.int (nI x) :: .ref (G 0) :: rest)) :=
  z_put (N := 26) (ci := 4) (q0 := 0) X zt_R zin_R zty_R znm_R hP (hD σ) hS rfl rfl 7 (by decide) zw_501 rfl rfl rfl (Nat.le_of_ble_eq_true rfl) rfl hdg kk
theorem g_mR_kind {σ : mS} (X : zFx K zR_R cc p s m args c) (hP : va_P K.1 zcl (mW K G σ) H) (hdg : decode cc pc = .ok (.getfield 26, 3)) (kk : W p l e R s m args below meth c H locs cells slots Q (F0 m (pc + 3) ls (.ref (G 6) :: rest))) : W p l e R s m args below meth c H locs cells slots Q (F0 m pc ls (.ref (G 0) :: rest)) :=
  z_get (N := 26) (ci := 4) (q0 := 0) X zin_R hP rfl rfl 8 (by decide) zw_502 rfl hdg kk
theorem l_mR_kind {σ : mS} {i : Nat} (X : zFx K zR_R cc p s m args c) (hP : va_P K.1 zcl (mW K G σ) H) (hi : i < 8) (hdg : decode cc pc = .ok (.iaload, 1)) (kk : W p l e R s m args below meth c H locs cells slots Q (F0 m (pc + 1) ls (.int (nI (mR_kind σ i)) :: rest))) : W p l e R s m args below meth c H locs cells slots Q (F0 m pc ls (.int (nI i) :: .ref (G 6) :: rest)) :=
  z_iald (q0 := 6) X hP rfl hi (by decide) rfl hdg kk
theorem s_mR_kind {σ : mS} {i x : Nat} (X : zFx K zR_R cc p s m args c) (hD : ∀ σ, va_D A (mW K G σ)) (hP : va_P K.1 zcl (mW K G σ) H) (hS : va_S A H0 H locs) (hi : i < 8) (hdg : decode cc pc = .ok (.iastore, 1)) (kk : ∀ (H1 : Heap) (locs1 : List Loc), va_P K.1 zcl (mW K G (p_mR_kind σ (upN (mR_kind σ) i x))) H1 → va_S A H0 H1 locs1 → W p l e R s m args below meth c H1 locs1 cells slots Q (F0 m (pc + 1) ls rest)) : W p l e R s m args below meth c H locs cells slots Q (F0 m pc ls (.int (nI x) :: .int (nI i) :: .ref (G 6) :: rest)) :=
  z_iast (q0 := 6) X hP (hD σ) hS rfl hi (by decide) (upN_nI _ _ _) rfl hdg kk
theorem g_mR_along {σ : mS} (X : zFx K zR_R cc p s m args c) (hP : va_P K.1 zcl (mW K G σ) H) (hdg : decode cc pc = .ok (.getfield 29, 3)) (kk : W p l e R s m args below meth c H locs cells slots Q (F0 m (pc + 3) ls (.ref (G 7) :: rest))) : W p l e R s m args below meth c H locs cells slots Q (F0 m pc ls (.ref (G 0) :: rest)) :=
  z_get (N := 26) (ci := 4) (q0 := 0) X zin_R hP rfl rfl 9 (by decide) zw_503 rfl hdg kk
theorem l_mR_along {σ : mS} {i : Nat} (X : zFx K zR_R cc p s m args c) (hP : va_P K.1 zcl (mW K G σ) H) (hi : i < 8) (hdg : decode cc pc = .ok (.iaload, 1)) (kk : W p l e R s m args below meth c H locs cells slots Q (F0 m (pc + 1) ls (.int (mR_along σ i) :: rest))) : W p l e R s m args below meth c H locs cells slots Q (F0 m pc ls (.int (nI i) :: .ref (G 7) :: rest)) :=
  z_iald (q0 := 7) X hP rfl hi (by decide) rfl hdg kk
theorem s_mR_along {σ : mS} {i : Nat} {x : Int32} (X : zFx K zR_R cc p s m args c) (hD : ∀ σ, va_D A (mW K G σ)) (hP : va_P K.1 zcl (mW K G σ) H) (hS : va_S A H0 H locs) (hi : i < 8) (hdg : decode cc pc = .ok (.iastore, 1)) (kk : ∀ (H1 : Heap) (locs1 : List Loc), va_P K.1 zcl (mW K G (p_mR_along σ (upd (mR_along σ) i x))) H1 → va_S A H0 H1 locs1 → W p l e R s m args below meth c H1 locs1 cells slots Q (F0 m (pc + 1) ls rest)) : W p l e R s m args below meth c H locs cells slots Q (F0 m pc ls (.int x :: .int (nI i) :: .ref (G 7) :: rest)) :=
  z_iast (q0 := 7) X hP (hD σ) hS rfl hi (by decide) rfl rfl hdg kk
theorem g_mR_wants {σ : mS} (X : zFx K zR_R cc p s m args c) (hP : va_P K.1 zcl (mW K G σ) H) (hdg : decode cc pc = .ok (.getfield 32, 3)) (kk : W p l e R s m args below meth c H locs cells slots Q (F0 m (pc + 3) ls (.ref (G 8) :: rest))) : W p l e R s m args below meth c H locs cells slots Q (F0 m pc ls (.ref (G 0) :: rest)) :=
  z_get (N := 26) (ci := 4) (q0 := 0) X zin_R hP rfl rfl 10 (by decide) zw_504 rfl hdg kk
theorem l_mR_wants {σ : mS} {i : Nat} (X : zFx K zR_R cc p s m args c) (hP : va_P K.1 zcl (mW K G σ) H) (hi : i < 8) (hdg : decode cc pc = .ok (.iaload, 1)) (kk : W p l e R s m args below meth c H locs cells slots Q (F0 m (pc + 1) ls (.int (mR_wants σ i) :: rest))) : W p l e R s m args below meth c H locs cells slots Q (F0 m pc ls (.int (nI i) :: .ref (G 8) :: rest)) :=
  z_iald (q0 := 8) X hP rfl hi (by decide) rfl hdg kk
theorem s_mR_wants {σ : mS} {i : Nat} {x : Int32} (X : zFx K zR_R cc p s m args c) (hD : ∀ σ, va_D A (mW K G σ)) (hP : va_P K.1 zcl (mW K G σ) H) (hS : va_S A H0 H locs) (hi : i < 8) (hdg : decode cc pc = .ok (.iastore, 1)) (kk : ∀ (H1 : Heap) (locs1 : List Loc), va_P K.1 zcl (mW K G (p_mR_wants σ (upd (mR_wants σ) i x))) H1 → va_S A H0 H1 locs1 → W p l e R s m args below meth c H1 locs1 cells slots Q (F0 m (pc + 1) ls rest)) : W p l e R s m args below meth c H locs cells slots Q (F0 m pc ls (.int x :: .int (nI i) :: .ref (G 8) :: rest)) :=
  z_iast (q0 := 8) X hP (hD σ) hS rfl hi (by decide) rfl rfl hdg kk
theorem g_mR_gives {σ : mS} (X : zFx K zR_R cc p s m args c) (hP : va_P K.1 zcl (mW K G σ) H) (hdg : decode cc pc = .ok (.getfield 35, 3)) (kk : W p l e R s m args below meth c H locs cells slots Q (F0 m (pc + 3) ls (.ref (G 9) :: rest))) : W p l e R s m args below meth c H locs cells slots Q (F0 m pc ls (.ref (G 0) :: rest)) :=
  z_get (N := 26) (ci := 4) (q0 := 0) X zin_R hP rfl rfl 11 (by decide) zw_505 rfl hdg kk
theorem l_mR_gives {σ : mS} {i : Nat} (X : zFx K zR_R cc p s m args c) (hP : va_P K.1 zcl (mW K G σ) H) (hi : i < 8) (hdg : decode cc pc = .ok (.iaload, 1)) (kk : W p l e R s m args below meth c H locs cells slots Q (F0 m (pc + 1) ls (.int (mR_gives σ i) :: rest))) : W p l e R s m args below meth c H locs cells slots Q (F0 m pc ls (.int (nI i) :: .ref (G 9) :: rest)) :=
  z_iald (q0 := 9) X hP rfl hi (by decide) rfl hdg kk
theorem s_mR_gives {σ : mS} {i : Nat} {x : Int32} (X : zFx K zR_R cc p s m args c) (hD : ∀ σ, va_D A (mW K G σ)) (hP : va_P K.1 zcl (mW K G σ) H) (hS : va_S A H0 H locs) (hi : i < 8) (hdg : decode cc pc = .ok (.iastore, 1)) (kk : ∀ (H1 : Heap) (locs1 : List Loc), va_P K.1 zcl (mW K G (p_mR_gives σ (upd (mR_gives σ) i x))) H1 → va_S A H0 H1 locs1 → W p l e R s m args below meth c H1 locs1 cells slots Q (F0 m (pc + 1) ls rest)) : W p l e R s m args below meth c H locs cells slots Q (F0 m pc ls (.int x :: .int (nI i) :: .ref (G 9) :: rest)) :=
  z_iast (q0 := 9) X hP (hD σ) hS rfl hi (by decide) rfl rfl hdg kk
theorem g_mR_nameOf {σ : mS} (X : zFx K zR_R cc p s m args c) (hP : va_P K.1 zcl (mW K G σ) H) (hdg : decode cc pc = .ok (.getfield 38, 3)) (kk : W p l e R s m args below meth c H locs cells slots Q (F0 m (pc + 3) ls (.ref (G 10) :: rest))) : W p l e R s m args below meth c H locs cells slots Q (F0 m pc ls (.ref (G 0) :: rest)) :=
  z_get (N := 26) (ci := 4) (q0 := 0) X zin_R hP rfl rfl 12 (by decide) zw_506 rfl hdg kk
theorem l_mR_nameOf {σ : mS} {i : Nat} (X : zFx K zR_R cc p s m args c) (hP : va_P K.1 zcl (mW K G σ) H) (hi : i < 8) (hdg : decode cc pc = .ok (.iaload, 1)) (kk : W p l e R s m args below meth c H locs cells slots Q (F0 m (pc + 1) ls (.int (mR_nameOf σ i) :: rest))) : W p l e R s m args below meth c H locs cells slots Q (F0 m pc ls (.int (nI i) :: .ref (G 10) :: rest)) :=
  z_iald (q0 := 10) X hP rfl hi (by decide) rfl hdg kk
theorem s_mR_nameOf {σ : mS} {i : Nat} {x : Int32} (X : zFx K zR_R cc p s m args c) (hD : ∀ σ, va_D A (mW K G σ)) (hP : va_P K.1 zcl (mW K G σ) H) (hS : va_S A H0 H locs) (hi : i < 8) (hdg : decode cc pc = .ok (.iastore, 1)) (kk : ∀ (H1 : Heap) (locs1 : List Loc), va_P K.1 zcl (mW K G (p_mR_nameOf σ (upd (mR_nameOf σ) i x))) H1 → va_S A H0 H1 locs1 → W p l e R s m args below meth c H1 locs1 cells slots Q (F0 m (pc + 1) ls rest)) : W p l e R s m args below meth c H locs cells slots Q (F0 m pc ls (.int x :: .int (nI i) :: .ref (G 10) :: rest)) :=
  z_iast (q0 := 10) X hP (hD σ) hS rfl hi (by decide) rfl rfl hdg kk
theorem g_mR_needMany {σ : mS} (X : zFx K zR_R cc p s m args c) (hP : va_P K.1 zcl (mW K G σ) H) (hdg : decode cc pc = .ok (.getfield 41, 3)) (kk : W p l e R s m args below meth c H locs cells slots Q (F0 m (pc + 3) ls (.ref (G 11) :: rest))) : W p l e R s m args below meth c H locs cells slots Q (F0 m pc ls (.ref (G 0) :: rest)) :=
  z_get (N := 26) (ci := 4) (q0 := 0) X zin_R hP rfl rfl 13 (by decide) zw_507 rfl hdg kk
theorem l_mR_needMany {σ : mS} {i : Nat} (X : zFx K zR_R cc p s m args c) (hP : va_P K.1 zcl (mW K G σ) H) (hi : i < 8) (hdg : decode cc pc = .ok (.iaload, 1)) (kk : W p l e R s m args below meth c H locs cells slots Q (F0 m (pc + 1) ls (.int (nI (mR_needMany σ i)) :: rest))) : W p l e R s m args below meth c H locs cells slots Q (F0 m pc ls (.int (nI i) :: .ref (G 11) :: rest)) :=
  z_iald (q0 := 11) X hP rfl hi (by decide) rfl hdg kk
theorem s_mR_needMany {σ : mS} {i x : Nat} (X : zFx K zR_R cc p s m args c) (hD : ∀ σ, va_D A (mW K G σ)) (hP : va_P K.1 zcl (mW K G σ) H) (hS : va_S A H0 H locs) (hi : i < 8) (hdg : decode cc pc = .ok (.iastore, 1)) (kk : ∀ (H1 : Heap) (locs1 : List Loc), va_P K.1 zcl (mW K G (p_mR_needMany σ (upN (mR_needMany σ) i x))) H1 → va_S A H0 H1 locs1 → W p l e R s m args below meth c H1 locs1 cells slots Q (F0 m (pc + 1) ls rest)) : W p l e R s m args below meth c H locs cells slots Q (F0 m pc ls (.int (nI x) :: .int (nI i) :: .ref (G 11) :: rest)) :=
  z_iast (q0 := 11) X hP (hD σ) hS rfl hi (by decide) (upN_nI _ _ _) rfl hdg kk
theorem g_mR_needs {σ : mS} (X : zFx K zR_R cc p s m args c) (hP : va_P K.1 zcl (mW K G σ) H) (hdg : decode cc pc = .ok (.getfield 44, 3)) (kk : W p l e R s m args below meth c H locs cells slots Q (F0 m (pc + 3) ls (.ref (G 12) :: rest))) : W p l e R s m args below meth c H locs cells slots Q (F0 m pc ls (.ref (G 0) :: rest)) :=
  z_get (N := 26) (ci := 4) (q0 := 0) X zin_R hP rfl rfl 14 (by decide) zw_508 rfl hdg kk
theorem l_mR_needs {σ : mS} {i : Nat} (X : zFx K zR_R cc p s m args c) (hP : va_P K.1 zcl (mW K G σ) H) (hi : i < 24) (hdg : decode cc pc = .ok (.iaload, 1)) (kk : W p l e R s m args below meth c H locs cells slots Q (F0 m (pc + 1) ls (.int (nI (mR_needs σ i)) :: rest))) : W p l e R s m args below meth c H locs cells slots Q (F0 m pc ls (.int (nI i) :: .ref (G 12) :: rest)) :=
  z_iald (q0 := 12) X hP rfl hi (by decide) rfl hdg kk
theorem s_mR_needs {σ : mS} {i x : Nat} (X : zFx K zR_R cc p s m args c) (hD : ∀ σ, va_D A (mW K G σ)) (hP : va_P K.1 zcl (mW K G σ) H) (hS : va_S A H0 H locs) (hi : i < 24) (hdg : decode cc pc = .ok (.iastore, 1)) (kk : ∀ (H1 : Heap) (locs1 : List Loc), va_P K.1 zcl (mW K G (p_mR_needs σ (upN (mR_needs σ) i x))) H1 → va_S A H0 H1 locs1 → W p l e R s m args below meth c H1 locs1 cells slots Q (F0 m (pc + 1) ls rest)) : W p l e R s m args below meth c H locs cells slots Q (F0 m pc ls (.int (nI x) :: .int (nI i) :: .ref (G 12) :: rest)) :=
  z_iast (q0 := 12) X hP (hD σ) hS rfl hi (by decide) (upN_nI _ _ _) rfl hdg kk
theorem g_mR_known {σ : mS} (X : zFx K zR_R cc p s m args c) (hP : va_P K.1 zcl (mW K G σ) H) (hdg : decode cc pc = .ok (.getfield 47, 3)) (kk : W p l e R s m args below meth c H locs cells slots Q (F0 m (pc + 3) ls (.ref (G 13) :: rest))) : W p l e R s m args below meth c H locs cells slots Q (F0 m pc ls (.ref (G 0) :: rest)) :=
  z_get (N := 26) (ci := 4) (q0 := 0) X zin_R hP rfl rfl 15 (by decide) zw_509 rfl hdg kk
theorem l_mR_known {σ : mS} {i : Nat} (X : zFx K zR_R cc p s m args c) (hP : va_P K.1 zcl (mW K G σ) H) (hi : i < 2560) (hdg : decode cc pc = .ok (.iaload, 1)) (kk : W p l e R s m args below meth c H locs cells slots Q (F0 m (pc + 1) ls (.int (nI (mR_known σ i)) :: rest))) : W p l e R s m args below meth c H locs cells slots Q (F0 m pc ls (.int (nI i) :: .ref (G 13) :: rest)) :=
  z_iald (q0 := 13) X hP rfl hi (by decide) rfl hdg kk
theorem s_mR_known {σ : mS} {i x : Nat} (X : zFx K zR_R cc p s m args c) (hD : ∀ σ, va_D A (mW K G σ)) (hP : va_P K.1 zcl (mW K G σ) H) (hS : va_S A H0 H locs) (hi : i < 2560) (hdg : decode cc pc = .ok (.iastore, 1)) (kk : ∀ (H1 : Heap) (locs1 : List Loc), va_P K.1 zcl (mW K G (p_mR_known σ (upN (mR_known σ) i x))) H1 → va_S A H0 H1 locs1 → W p l e R s m args below meth c H1 locs1 cells slots Q (F0 m (pc + 1) ls rest)) : W p l e R s m args below meth c H locs cells slots Q (F0 m pc ls (.int (nI x) :: .int (nI i) :: .ref (G 13) :: rest)) :=
  z_iast (q0 := 13) X hP (hD σ) hS rfl hi (by decide) (upN_nI _ _ _) rfl hdg kk
theorem g_mR_results {σ : mS} (X : zFx K zR_R cc p s m args c) (hP : va_P K.1 zcl (mW K G σ) H) (hdg : decode cc pc = .ok (.getfield 50, 3)) (kk : W p l e R s m args below meth c H locs cells slots Q (F0 m (pc + 3) ls (.ref (G 14) :: rest))) : W p l e R s m args below meth c H locs cells slots Q (F0 m pc ls (.ref (G 0) :: rest)) :=
  z_get (N := 26) (ci := 4) (q0 := 0) X zin_R hP rfl rfl 16 (by decide) zw_510 rfl hdg kk
theorem l_mR_results {σ : mS} {i : Nat} (X : zFx K zR_R cc p s m args c) (hP : va_P K.1 zcl (mW K G σ) H) (hi : i < 2560) (hdg : decode cc pc = .ok (.laload, 1)) (kk : W p l e R s m args below meth c H locs cells slots Q (F0 m (pc + 1) ls (.long (mR_results σ i) :: rest))) : W p l e R s m args below meth c H locs cells slots Q (F0 m pc ls (.int (nI i) :: .ref (G 14) :: rest)) :=
  z_lald (q0 := 14) X hP rfl hi (by decide) hdg kk
theorem s_mR_results {σ : mS} {i : Nat} {x : Int64} (X : zFx K zR_R cc p s m args c) (hD : ∀ σ, va_D A (mW K G σ)) (hP : va_P K.1 zcl (mW K G σ) H) (hS : va_S A H0 H locs) (hi : i < 2560) (hdg : decode cc pc = .ok (.lastore, 1)) (kk : ∀ (H1 : Heap) (locs1 : List Loc), va_P K.1 zcl (mW K G (p_mR_results σ (vp_updL (mR_results σ) i x))) H1 → va_S A H0 H1 locs1 → W p l e R s m args below meth c H1 locs1 cells slots Q (F0 m (pc + 1) ls rest)) : W p l e R s m args below meth c H locs cells slots Q (F0 m pc ls (.long x :: .int (nI i) :: .ref (G 14) :: rest)) :=
  z_last (q0 := 14) X hP (hD σ) hS rfl hi (by decide) rfl hdg kk
theorem g_mR_times {σ : mS} (X : zFx K zR_R cc p s m args c) (hP : va_P K.1 zcl (mW K G σ) H) (hdg : decode cc pc = .ok (.getfield 53, 3)) (kk : W p l e R s m args below meth c H locs cells slots Q (F0 m (pc + 3) ls (.ref (G 15) :: rest))) : W p l e R s m args below meth c H locs cells slots Q (F0 m pc ls (.ref (G 0) :: rest)) :=
  z_get (N := 26) (ci := 4) (q0 := 0) X zin_R hP rfl rfl 17 (by decide) zw_511 rfl hdg kk
theorem l_mR_times {σ : mS} {i : Nat} (X : zFx K zR_R cc p s m args c) (hP : va_P K.1 zcl (mW K G σ) H) (hi : i < 160) (hdg : decode cc pc = .ok (.iaload, 1)) (kk : W p l e R s m args below meth c H locs cells slots Q (F0 m (pc + 1) ls (.int (mR_times σ i) :: rest))) : W p l e R s m args below meth c H locs cells slots Q (F0 m pc ls (.int (nI i) :: .ref (G 15) :: rest)) :=
  z_iald (q0 := 15) X hP rfl hi (by decide) rfl hdg kk
theorem s_mR_times {σ : mS} {i : Nat} {x : Int32} (X : zFx K zR_R cc p s m args c) (hD : ∀ σ, va_D A (mW K G σ)) (hP : va_P K.1 zcl (mW K G σ) H) (hS : va_S A H0 H locs) (hi : i < 160) (hdg : decode cc pc = .ok (.iastore, 1)) (kk : ∀ (H1 : Heap) (locs1 : List Loc), va_P K.1 zcl (mW K G (p_mR_times σ (upd (mR_times σ) i x))) H1 → va_S A H0 H1 locs1 → W p l e R s m args below meth c H1 locs1 cells slots Q (F0 m (pc + 1) ls rest)) : W p l e R s m args below meth c H locs cells slots Q (F0 m pc ls (.int x :: .int (nI i) :: .ref (G 15) :: rest)) :=
  z_iast (q0 := 15) X hP (hD σ) hS rfl hi (by decide) rfl rfl hdg kk
theorem g_mR_madeBy {σ : mS} (X : zFx K zR_R cc p s m args c) (hP : va_P K.1 zcl (mW K G σ) H) (hdg : decode cc pc = .ok (.getfield 56, 3)) (kk : W p l e R s m args below meth c H locs cells slots Q (F0 m (pc + 3) ls (.ref (G 16) :: rest))) : W p l e R s m args below meth c H locs cells slots Q (F0 m pc ls (.ref (G 0) :: rest)) :=
  z_get (N := 26) (ci := 4) (q0 := 0) X zin_R hP rfl rfl 18 (by decide) zw_512 rfl hdg kk
theorem l_mR_madeBy {σ : mS} {i : Nat} (X : zFx K zR_R cc p s m args c) (hP : va_P K.1 zcl (mW K G σ) H) (hi : i < 200) (hdg : decode cc pc = .ok (.iaload, 1)) (kk : W p l e R s m args below meth c H locs cells slots Q (F0 m (pc + 1) ls (.int (mR_madeBy σ i) :: rest))) : W p l e R s m args below meth c H locs cells slots Q (F0 m pc ls (.int (nI i) :: .ref (G 16) :: rest)) :=
  z_iald (q0 := 16) X hP rfl hi (by decide) rfl hdg kk
theorem s_mR_madeBy {σ : mS} {i : Nat} {x : Int32} (X : zFx K zR_R cc p s m args c) (hD : ∀ σ, va_D A (mW K G σ)) (hP : va_P K.1 zcl (mW K G σ) H) (hS : va_S A H0 H locs) (hi : i < 200) (hdg : decode cc pc = .ok (.iastore, 1)) (kk : ∀ (H1 : Heap) (locs1 : List Loc), va_P K.1 zcl (mW K G (p_mR_madeBy σ (upd (mR_madeBy σ) i x))) H1 → va_S A H0 H1 locs1 → W p l e R s m args below meth c H1 locs1 cells slots Q (F0 m (pc + 1) ls rest)) : W p l e R s m args below meth c H locs cells slots Q (F0 m pc ls (.int x :: .int (nI i) :: .ref (G 16) :: rest)) :=
  z_iast (q0 := 16) X hP (hD σ) hS rfl hi (by decide) rfl rfl hdg kk
theorem g_mR_clashTold {σ : mS} (X : zFx K zR_R cc p s m args c) (hP : va_P K.1 zcl (mW K G σ) H) (hdg : decode cc pc = .ok (.getfield 59, 3)) (kk : W p l e R s m args below meth c H locs cells slots Q (F0 m (pc + 3) ls (.ref (G 17) :: rest))) : W p l e R s m args below meth c H locs cells slots Q (F0 m pc ls (.ref (G 0) :: rest)) :=
  z_get (N := 26) (ci := 4) (q0 := 0) X zin_R hP rfl rfl 19 (by decide) zw_513 rfl hdg kk
theorem l_mR_clashTold {σ : mS} {i : Nat} (X : zFx K zR_R cc p s m args c) (hP : va_P K.1 zcl (mW K G σ) H) (hi : i < 5) (hdg : decode cc pc = .ok (.iaload, 1)) (kk : W p l e R s m args below meth c H locs cells slots Q (F0 m (pc + 1) ls (.int (mR_clashTold σ i) :: rest))) : W p l e R s m args below meth c H locs cells slots Q (F0 m pc ls (.int (nI i) :: .ref (G 17) :: rest)) :=
  z_iald (q0 := 17) X hP rfl hi (by decide) rfl hdg kk
theorem s_mR_clashTold {σ : mS} {i : Nat} {x : Int32} (X : zFx K zR_R cc p s m args c) (hD : ∀ σ, va_D A (mW K G σ)) (hP : va_P K.1 zcl (mW K G σ) H) (hS : va_S A H0 H locs) (hi : i < 5) (hdg : decode cc pc = .ok (.iastore, 1)) (kk : ∀ (H1 : Heap) (locs1 : List Loc), va_P K.1 zcl (mW K G (p_mR_clashTold σ (upd (mR_clashTold σ) i x))) H1 → va_S A H0 H1 locs1 → W p l e R s m args below meth c H1 locs1 cells slots Q (F0 m (pc + 1) ls rest)) : W p l e R s m args below meth c H locs cells slots Q (F0 m pc ls (.int x :: .int (nI i) :: .ref (G 17) :: rest)) :=
  z_iast (q0 := 17) X hP (hD σ) hS rfl hi (by decide) rfl rfl hdg kk
theorem g_mR_heap {σ : mS} (X : zFx K zR_R cc p s m args c) (hP : va_P K.1 zcl (mW K G σ) H) (hdg : decode cc pc = .ok (.getfield 117, 3)) (kk : W p l e R s m args below meth c H locs cells slots Q (F0 m (pc + 3) ls (.int (nI (mR_heap σ)) :: rest))) : W p l e R s m args below meth c H locs cells slots Q (F0 m pc ls (.ref (G 0) :: rest)) :=
  z_get (N := 26) (ci := 4) (q0 := 0) X zin_R hP rfl rfl 20 (by decide) zw_514 rfl hdg kk
theorem s_mR_heap {σ : mS} {x : Nat} (X : zFx K zR_R cc p s m args c) (hD : ∀ σ, va_D A (mW K G σ)) (hP : va_P K.1 zcl (mW K G σ) H) (hS : va_S A H0 H locs) (hdg : decode cc pc = .ok (.putfield 117, 3)) (kk : ∀ (H1 : Heap) (locs1 : List Loc), va_P K.1 zcl (mW K G (p_mR_heap σ x)) H1 → va_S A H0 H1 locs1 → W p l e R s m args below meth c H1 locs1 cells slots Q (F0 m (pc + 3) ls rest)) : W p l e R s m args below meth c H locs cells slots Q (F0 m pc ls (.int (nI x) :: .ref (G 0) :: rest)) :=
  z_put (N := 26) (ci := 4) (q0 := 0) X zt_R zin_R zty_R znm_R hP (hD σ) hS rfl rfl 20 (by decide) zw_514 rfl rfl rfl (Nat.le_of_ble_eq_true rfl) rfl hdg kk
theorem g_mR_heapTarget {σ : mS} (X : zFx K zR_R cc p s m args c) (hP : va_P K.1 zcl (mW K G σ) H) (hdg : decode cc pc = .ok (.getfield 62, 3)) (kk : W p l e R s m args below meth c H locs cells slots Q (F0 m (pc + 3) ls (.ref (G 18) :: rest))) : W p l e R s m args below meth c H locs cells slots Q (F0 m pc ls (.ref (G 0) :: rest)) :=
  z_get (N := 26) (ci := 4) (q0 := 0) X zin_R hP rfl rfl 21 (by decide) zw_515 rfl hdg kk
theorem l_mR_heapTarget {σ : mS} {i : Nat} (X : zFx K zR_R cc p s m args c) (hP : va_P K.1 zcl (mW K G σ) H) (hi : i < 170) (hdg : decode cc pc = .ok (.iaload, 1)) (kk : W p l e R s m args below meth c H locs cells slots Q (F0 m (pc + 1) ls (.int (nI (mR_heapTarget σ i)) :: rest))) : W p l e R s m args below meth c H locs cells slots Q (F0 m pc ls (.int (nI i) :: .ref (G 18) :: rest)) :=
  z_iald (q0 := 18) X hP rfl hi (by decide) rfl hdg kk
theorem s_mR_heapTarget {σ : mS} {i x : Nat} (X : zFx K zR_R cc p s m args c) (hD : ∀ σ, va_D A (mW K G σ)) (hP : va_P K.1 zcl (mW K G σ) H) (hS : va_S A H0 H locs) (hi : i < 170) (hdg : decode cc pc = .ok (.iastore, 1)) (kk : ∀ (H1 : Heap) (locs1 : List Loc), va_P K.1 zcl (mW K G (p_mR_heapTarget σ (upN (mR_heapTarget σ) i x))) H1 → va_S A H0 H1 locs1 → W p l e R s m args below meth c H1 locs1 cells slots Q (F0 m (pc + 1) ls rest)) : W p l e R s m args below meth c H locs cells slots Q (F0 m pc ls (.int (nI x) :: .int (nI i) :: .ref (G 18) :: rest)) :=
  z_iast (q0 := 18) X hP (hD σ) hS rfl hi (by decide) (upN_nI _ _ _) rfl hdg kk
theorem g_mR_heapAspect {σ : mS} (X : zFx K zR_R cc p s m args c) (hP : va_P K.1 zcl (mW K G σ) H) (hdg : decode cc pc = .ok (.getfield 65, 3)) (kk : W p l e R s m args below meth c H locs cells slots Q (F0 m (pc + 3) ls (.ref (G 19) :: rest))) : W p l e R s m args below meth c H locs cells slots Q (F0 m pc ls (.ref (G 0) :: rest)) :=
  z_get (N := 26) (ci := 4) (q0 := 0) X zin_R hP rfl rfl 22 (by decide) zw_516 rfl hdg kk
theorem l_mR_heapAspect {σ : mS} {i : Nat} (X : zFx K zR_R cc p s m args c) (hP : va_P K.1 zcl (mW K G σ) H) (hi : i < 170) (hdg : decode cc pc = .ok (.iaload, 1)) (kk : W p l e R s m args below meth c H locs cells slots Q (F0 m (pc + 1) ls (.int (nI (mR_heapAspect σ i)) :: rest))) : W p l e R s m args below meth c H locs cells slots Q (F0 m pc ls (.int (nI i) :: .ref (G 19) :: rest)) :=
  z_iald (q0 := 19) X hP rfl hi (by decide) rfl hdg kk
theorem s_mR_heapAspect {σ : mS} {i x : Nat} (X : zFx K zR_R cc p s m args c) (hD : ∀ σ, va_D A (mW K G σ)) (hP : va_P K.1 zcl (mW K G σ) H) (hS : va_S A H0 H locs) (hi : i < 170) (hdg : decode cc pc = .ok (.iastore, 1)) (kk : ∀ (H1 : Heap) (locs1 : List Loc), va_P K.1 zcl (mW K G (p_mR_heapAspect σ (upN (mR_heapAspect σ) i x))) H1 → va_S A H0 H1 locs1 → W p l e R s m args below meth c H1 locs1 cells slots Q (F0 m (pc + 1) ls rest)) : W p l e R s m args below meth c H locs cells slots Q (F0 m pc ls (.int (nI x) :: .int (nI i) :: .ref (G 19) :: rest)) :=
  z_iast (q0 := 19) X hP (hD σ) hS rfl hi (by decide) (upN_nI _ _ _) rfl hdg kk
theorem g_mR_setting {σ : mS} (X : zFx K zR_R cc p s m args c) (hP : va_P K.1 zcl (mW K G σ) H) (hdg : decode cc pc = .ok (.getfield 120, 3)) (kk : W p l e R s m args below meth c H locs cells slots Q (F0 m (pc + 3) ls (.int (nI (mR_setting σ)) :: rest))) : W p l e R s m args below meth c H locs cells slots Q (F0 m pc ls (.ref (G 0) :: rest)) :=
  z_get (N := 26) (ci := 4) (q0 := 0) X zin_R hP rfl rfl 23 (by decide) zw_517 rfl hdg kk
theorem s_mR_setting {σ : mS} {x : Nat} (X : zFx K zR_R cc p s m args c) (hD : ∀ σ, va_D A (mW K G σ)) (hP : va_P K.1 zcl (mW K G σ) H) (hS : va_S A H0 H locs) (hdg : decode cc pc = .ok (.putfield 120, 3)) (kk : ∀ (H1 : Heap) (locs1 : List Loc), va_P K.1 zcl (mW K G (p_mR_setting σ x)) H1 → va_S A H0 H1 locs1 → W p l e R s m args below meth c H1 locs1 cells slots Q (F0 m (pc + 3) ls rest)) : W p l e R s m args below meth c H locs cells slots Q (F0 m pc ls (.int (nI x) :: .ref (G 0) :: rest)) :=
  z_put (N := 26) (ci := 4) (q0 := 0) X zt_R zin_R zty_R znm_R hP (hD σ) hS rfl rfl 23 (by decide) zw_517 rfl rfl rfl (Nat.le_of_ble_eq_true rfl) rfl hdg kk
theorem g_mR_clashes {σ : mS} (X : zFx K zR_R cc p s m args c) (hP : va_P K.1 zcl (mW K G σ) H) (hdg : decode cc pc = .ok (.getfield 145, 3)) (kk : W p l e R s m args below meth c H locs cells slots Q (F0 m (pc + 3) ls (.int (nI (mR_clashes σ)) :: rest))) : W p l e R s m args below meth c H locs cells slots Q (F0 m pc ls (.ref (G 0) :: rest)) :=
  z_get (N := 26) (ci := 4) (q0 := 0) X zin_R hP rfl rfl 24 (by decide) zw_518 rfl hdg kk
theorem s_mR_clashes {σ : mS} {x : Nat} (X : zFx K zR_R cc p s m args c) (hD : ∀ σ, va_D A (mW K G σ)) (hP : va_P K.1 zcl (mW K G σ) H) (hS : va_S A H0 H locs) (hx : x ≤ 1) (hdg : decode cc pc = .ok (.putfield 145, 3)) (kk : ∀ (H1 : Heap) (locs1 : List Loc), va_P K.1 zcl (mW K G (p_mR_clashes σ x)) H1 → va_S A H0 H1 locs1 → W p l e R s m args below meth c H1 locs1 cells slots Q (F0 m (pc + 3) ls rest)) : W p l e R s m args below meth c H locs cells slots Q (F0 m pc ls (.int (nI x) :: .ref (G 0) :: rest)) :=
  z_put (N := 26) (ci := 4) (q0 := 0) X zt_R zin_R zty_R znm_R hP (hD σ) hS rfl rfl 24 (by decide) zw_518 rfl (by rcases (show x = 0 ∨ x = 1 by omega) with rfl | rfl <;> rfl) (by rcases (show x = 0 ∨ x = 1 by omega) with rfl | rfl <;> rfl) (Nat.le_of_ble_eq_true rfl) rfl hdg kk
theorem g_mR_touched {σ : mS} (X : zFx K zR_R cc p s m args c) (hP : va_P K.1 zcl (mW K G σ) H) (hdg : decode cc pc = .ok (.getfield 68, 3)) (kk : W p l e R s m args below meth c H locs cells slots Q (F0 m (pc + 3) ls (.ref (G 20) :: rest))) : W p l e R s m args below meth c H locs cells slots Q (F0 m pc ls (.ref (G 0) :: rest)) :=
  z_get (N := 26) (ci := 4) (q0 := 0) X zin_R hP rfl rfl 25 (by decide) zw_519 rfl hdg kk
theorem l_mR_touched {σ : mS} {i : Nat} (X : zFx K zR_R cc p s m args c) (hP : va_P K.1 zcl (mW K G σ) H) (hi : i < 20) (hdg : decode cc pc = .ok (.baload, 1)) (kk : W p l e R s m args below meth c H locs cells slots Q (F0 m (pc + 1) ls (.int (nI (mR_touched σ i)) :: rest))) : W p l e R s m args below meth c H locs cells slots Q (F0 m pc ls (.int (nI i) :: .ref (G 20) :: rest)) := by
  refine va_zald (D := K.1) (q0 := 20) (t0 := 2) X.1 X.2.1 X.2.2.2.2 hP (cA := K.2.2.2) (n := 20) (f := fun j => nI (mR_touched σ j)) rfl rfl (vp_in_nI hi (by decide)) hdg ?_
  rw [nI_clamp (Nat.lt_trans hi (by decide))]
  exact kk
theorem s_mR_touched {σ : mS} {i x : Nat} (X : zFx K zR_R cc p s m args c) (hD : ∀ σ, va_D A (mW K G σ)) (hP : va_P K.1 zcl (mW K G σ) H) (hS : va_S A H0 H locs) (hi : i < 20) (hx : x ≤ 1) (hdg : decode cc pc = .ok (.bastore, 1)) (kk : ∀ (H1 : Heap) (locs1 : List Loc), va_P K.1 zcl (mW K G (p_mR_touched σ (upN (mR_touched σ) i x))) H1 → va_S A H0 H1 locs1 → W p l e R s m args below meth c H1 locs1 cells slots Q (F0 m (pc + 1) ls rest)) : W p l e R s m args below meth c H locs cells slots Q (F0 m pc ls (.int (nI x) :: .int (nI i) :: .ref (G 20) :: rest)) := by
  refine va_zast (D := K.1) (q0 := 20) (t0 := 2) X.1 X.2.1 X.2.2.2.2 hP (hD σ) hS (cA := K.2.2.2) (n := 20) (f := fun j => nI (mR_touched σ j)) rfl rfl (vp_in_nI hi (by decide)) hdg (fun H1 locs1 h1 _ h3 => ?_)
  rw [nI_clamp (Nat.lt_trans hi (by decide)), show vp_nar .boolean (nI x) = nI x by rcases (show x = 0 ∨ x = 1 by omega) with rfl | rfl <;> decide +kernel, upN_nI] at h1
  exact kk H1 locs1 h1 h3
end ZM
end
section
/-! the words of every call (by program: wip/gen/cls.py) -/
theorem zk_M_31 {R : Room} {s : State} {args : Array Value} (hts : ∀ w ∈ zW, w.before args s = true) {k : Nat} (hR : (zrm k).frames + 1 ≤ R.frames ∧ 8 + (4 + 11) + (zrm k).locals ≤ R.locals) : CallB R s args zR_M 31 zy_Ja_fill zb_Ja_fill 4 none zws_Ja_fill (zrm k) 0 0 2 ∧ (Cond.static zy_Ja_fill).before args s = true :=
  va_cwS 2 hts (z_goodS zw_92 zw_93 zw_5 zw_94) rfl rfl rfl (by decide +kernel) hR
theorem zk_W_34 {R : Room} {s : State} {args : Array Value} (hts : ∀ w ∈ zW, w.before args s = true) {k : Nat} (hR : (zrm k).frames + 1 ≤ R.frames ∧ 8 + (4 + 11) + (zrm k).locals ≤ R.locals) : CallB R s args zR_W 34 zy_Ja_fill zb_Ja_fill 4 none zws_Ja_fill (zrm k) 0 0 2 ∧ (Cond.static zy_Ja_fill).before args s = true :=
  va_cwS 2 hts (z_goodS zw_117 zw_93 zw_5 zw_94) rfl rfl rfl (by decide +kernel) hR
theorem zk_L_23 {R : Room} {s : State} {args : Array Value} (hts : ∀ w ∈ zW, w.before args s = true) {k : Nat} (hR : (zrm k).frames + 1 ≤ R.frames ∧ 8 + (4 + 11) + (zrm k).locals ≤ R.locals) : CallW R s args zR_L zR_W 23 zy_W_target zb_W_target 4 (some .int) zws_W_target (zrm k) 0 0 2 :=
  cwV 2 hts (z_goodV zw_131 zw_132 zw_133 zw_1 zw_134) rfl rfl rfl (by decide +kernel) hR
theorem zk_W_40 {R : Room} {s : State} {args : Array Value} (hts : ∀ w ∈ zW, w.before args s = true) {k : Nat} (hR : (zrm k).frames + 1 ≤ R.frames ∧ 8 + (5 + 11) + (zrm k).locals ≤ R.locals) : CallW R s args zR_W zR_T 40 zy_T_open zb_T_open 5 (some .int) zws_T_open (zrm k) 0 0 2 :=
  cwV 2 hts (z_goodV zw_135 zw_136 zw_137 zw_2 zw_138) rfl rfl rfl (by decide +kernel) hR
theorem zk_L_28 {R : Room} {s : State} {args : Array Value} (hts : ∀ w ∈ zW, w.before args s = true) {k : Nat} (hR : (zrm k).frames + 1 ≤ R.frames ∧ 8 + (2 + 11) + (zrm k).locals ≤ R.locals) : CallW R s args zR_L zR_W 28 zy_W_alias zb_W_alias 2 (some .int) zws_W_alias (zrm k) 0 0 1 :=
  cwV 1 hts (z_goodV zw_139 zw_140 zw_141 zw_1 zw_142) rfl rfl rfl (by decide +kernel) hR
theorem zk_W_44 {R : Room} {s : State} {args : Array Value} (hts : ∀ w ∈ zW, w.before args s = true) {k : Nat} (hR : (zrm k).frames + 1 ≤ R.frames ∧ 8 + (2 + 11) + (zrm k).locals ≤ R.locals) : CallW R s args zR_W zR_T 44 zy_T_has zb_T_has 2 (some .boolean) zws_T_has (zrm k) 0 0 1 :=
  cwV 1 hts (z_goodV zw_143 zw_144 zw_145 zw_2 zw_146) rfl rfl rfl (by decide +kernel) hR
theorem zk_W_48 {R : Room} {s : State} {args : Array Value} (hts : ∀ w ∈ zW, w.before args s = true) {k : Nat} (hR : (zrm k).frames + 1 ≤ R.frames ∧ 8 + (3 + 11) + (zrm k).locals ≤ R.locals) : CallW R s args zR_W zR_T 48 zy_T_openAlias zb_T_openAlias 3 (some .int) zws_T_openAlias (zrm k) 0 0 1 :=
  cwV 1 hts (z_goodV zw_147 zw_148 zw_149 zw_2 zw_150) rfl rfl rfl (by decide +kernel) hR
theorem zk_L_33 {R : Room} {s : State} {args : Array Value} (hts : ∀ w ∈ zW, w.before args s = true) {k : Nat} (hR : (zrm k).frames + 1 ≤ R.frames ∧ 8 + (2 + 11) + (zrm k).locals ≤ R.locals) : CallW R s args zR_L zR_W 33 zy_W_stands zb_W_stands 2 (some .int) zws_W_stands (zrm k) 0 0 1 :=
  cwV 1 hts (z_goodV zw_151 zw_152 zw_153 zw_1 zw_154) rfl rfl rfl (by decide +kernel) hR
theorem zk_W_52 {R : Room} {s : State} {args : Array Value} (hts : ∀ w ∈ zW, w.before args s = true) {k : Nat} (hR : (zrm k).frames + 1 ≤ R.frames ∧ 8 + (2 + 11) + (zrm k).locals ≤ R.locals) : CallW R s args zR_W zR_T 52 zy_T_end zb_T_end 2 (some .int) zws_T_end (zrm k) 0 0 1 :=
  cwV 1 hts (z_goodV zw_155 zw_156 zw_157 zw_2 zw_158) rfl rfl rfl (by decide +kernel) hR
theorem zk_L_37 {R : Room} {s : State} {args : Array Value} (hts : ∀ w ∈ zW, w.before args s = true) {k : Nat} (hR : (zrm k).frames + 1 ≤ R.frames ∧ 8 + (4 + 11) + (zrm k).locals ≤ R.locals) : CallW R s args zR_L zR_W 37 zy_W_add zb_W_add 4 (some .boolean) zws_W_add (zrm k) 0 0 3 :=
  cwV 3 hts (z_goodV zw_159 zw_160 zw_161 zw_1 zw_162) rfl rfl rfl (by decide +kernel) hR
theorem zk_W_55 {R : Room} {s : State} {args : Array Value} (hts : ∀ w ∈ zW, w.before args s = true) {k : Nat} (hR : (zrm k).frames + 1 ≤ R.frames ∧ 8 + (2 + 11) + (zrm k).locals ≤ R.locals) : CallW R s args zR_W zR_T 55 zy_T_isAlias zb_T_isAlias 2 (some .boolean) zws_T_isAlias (zrm k) 0 0 1 :=
  cwV 1 hts (z_goodV zw_163 zw_164 zw_165 zw_2 zw_166) rfl rfl rfl (by decide +kernel) hR
theorem zk_W_58 {R : Room} {s : State} {args : Array Value} (hts : ∀ w ∈ zW, w.before args s = true) {k : Nat} (hR : (zrm k).frames + 1 ≤ R.frames ∧ 8 + (7 + 11) + (zrm k).locals ≤ R.locals) : CallW R s args zR_W zR_T 58 zy_T_append zb_T_append 7 (some .boolean) zws_T_append (zrm k) 0 0 3 :=
  cwV 3 hts (z_goodV zw_167 zw_168 zw_169 zw_2 zw_170) rfl rfl rfl (by decide +kernel) hR
theorem zk_T_35 {R : Room} {s : State} {args : Array Value} (hts : ∀ w ∈ zW, w.before args s = true) {k : Nat} (hR : (zrm k).frames + 1 ≤ R.frames ∧ 8 + (3 + 11) + (zrm k).locals ≤ R.locals) : CallW R s args zR_T zR_T 35 zy_T_leadsTo zb_T_leadsTo 3 (some .boolean) zws_T_leadsTo (zrm k) 0 0 2 :=
  cwV 2 hts (z_goodV zw_171 zw_172 zw_173 zw_2 zw_174) rfl rfl rfl (by decide +kernel) hR
theorem zk_W_62 {R : Room} {s : State} {args : Array Value} (hts : ∀ w ∈ zW, w.before args s = true) {k : Nat} (hR : (zrm k).frames + 1 ≤ R.frames ∧ 8 + (4 + 11) + (zrm k).locals ≤ R.locals) : CallW R s args zR_W zR_W 62 zy_W_forgetFrom zb_W_forgetFrom 4 none zws_W_forgetFrom (zrm k) 0 0 1 :=
  cwV 1 hts (z_goodV zw_175 zw_177 zsel_W_forgetFrom zw_1 zw_178) rfl rfl rfl (by decide +kernel) hR
theorem zk_W_212 {R : Room} {s : State} {args : Array Value} (hts : ∀ w ∈ zW, w.before args s = true) {k : Nat} (hR : (zrm k).frames + 1 ≤ R.frames ∧ 8 + (1 + 11) + (zrm k).locals ≤ R.locals) : CallW R s args zR_W zR_T 212 zy_T_count zb_T_count 1 (some .int) zws_T_count (zrm k) 0 0 0 :=
  cwV 0 hts (z_goodV zw_179 zw_180 zw_181 zw_2 zw_182) rfl rfl rfl (by decide +kernel) hR
theorem zk_W_215 {R : Room} {s : State} {args : Array Value} (hts : ∀ w ∈ zW, w.before args s = true) {k : Nat} (hR : (zrm k).frames + 1 ≤ R.frames ∧ 8 + (3 + 11) + (zrm k).locals ≤ R.locals) : CallW R s args zR_W zR_T 215 zy_T_leadsTo zb_T_leadsTo 3 (some .boolean) zws_T_leadsTo (zrm k) 0 0 2 :=
  cwV 2 hts (z_goodV zw_183 zw_172 zw_173 zw_2 zw_174) rfl rfl rfl (by decide +kernel) hR
theorem zk_W_216 {R : Room} {s : State} {args : Array Value} (hts : ∀ w ∈ zW, w.before args s = true) {k : Nat} (hR : (zrm k).frames + 1 ≤ R.frames ∧ 8 + (1 + 11) + (zrm k).locals ≤ R.locals) : CallW R s args zR_W zR_A 216 zy_A_count zb_A_count 1 (some .int) zws_A_count (zrm k) 0 0 0 :=
  cwV 0 hts (z_goodV zw_184 zw_185 zw_186 zw_3 zw_187) rfl rfl rfl (by decide +kernel) hR
theorem zk_W_176 {R : Room} {s : State} {args : Array Value} (hts : ∀ w ∈ zW, w.before args s = true) {k : Nat} (hR : (zrm k).frames + 1 ≤ R.frames ∧ 8 + (2 + 11) + (zrm k).locals ≤ R.locals) : CallW R s args zR_W zR_A 176 zy_A_nameOf zb_A_nameOf 2 (some .int) zws_A_nameOf (zrm k) 0 0 1 :=
  cwV 1 hts (z_goodV zw_188 zw_189 zw_190 zw_3 zw_191) rfl rfl rfl (by decide +kernel) hR
theorem zk_W_217 {R : Room} {s : State} {args : Array Value} (hts : ∀ w ∈ zW, w.before args s = true) {k : Nat} (hR : (zrm k).frames + 1 ≤ R.frames ∧ 8 + (5 + 11) + (zrm k).locals ≤ R.locals) : CallW R s args zR_W zR_M 217 zy_M_forget zb_M_forget 5 none zws_M_forget (zrm k) 0 0 3 :=
  cwV 3 hts (z_goodV zw_192 zw_193 zw_194 zw_4 zw_195) rfl rfl rfl (by decide +kernel) hR
theorem zk_M_37 {R : Room} {s : State} {args : Array Value} (hts : ∀ w ∈ zW, w.before args s = true) {k : Nat} (hR : (zrm k).frames + 1 ≤ R.frames ∧ 8 + (2 + 11) + (zrm k).locals ≤ R.locals) : CallB R s args zR_M 37 zy_M_pair zb_M_pair 2 (some .int) zws_M_pair (zrm k) 0 0 2 ∧ (Cond.static zy_M_pair).before args s = true :=
  va_cwS 2 hts (z_goodS zw_196 zw_197 zw_4 zw_198) rfl rfl rfl (by decide +kernel) hR
theorem zk_M_45 {R : Room} {s : State} {args : Array Value} (hts : ∀ w ∈ zW, w.before args s = true) {k : Nat} (hR : (zrm k).frames + 1 ≤ R.frames ∧ 8 + (1 + 11) + (zrm k).locals ≤ R.locals) : CallB R s args zR_M 45 zy_Ji_bitCount zb_Ji_bitCount 1 (some .int) zws_Ji_bitCount (zrm k) 0 0 1 ∧ (Cond.static zy_Ji_bitCount).before args s = true :=
  va_cwS 1 hts (z_goodS zw_199 zw_200 zw_7 zw_201) rfl rfl rfl (by decide +kernel) hR
theorem zk_M_51 {R : Room} {s : State} {args : Array Value} (hts : ∀ w ∈ zW, w.before args s = true) {k : Nat} (hR : (zrm k).frames + 1 ≤ R.frames ∧ 8 + (3 + 11) + (zrm k).locals ≤ R.locals) : CallW R s args zR_M zR_M 51 zy_M_makerOf zb_M_makerOf 3 (some .int) zws_M_makerOf (zrm k) 0 0 2 :=
  cwV 2 hts (z_goodV zw_205 zw_206 zw_207 zw_4 zw_208) rfl rfl rfl (by decide +kernel) hR
theorem zk_L_42 {R : Room} {s : State} {args : Array Value} (hts : ∀ w ∈ zW, w.before args s = true) {k : Nat} (hR : (zrm k).frames + 1 ≤ R.frames ∧ 8 + (5 + 11) + (zrm k).locals ≤ R.locals) : CallW R s args zR_L zR_W 42 zy_W_change zb_W_change 5 (some .boolean) zws_W_change (zrm k) 0 0 3 :=
  cwV 3 hts (z_goodV zw_209 zw_210 zw_211 zw_1 zw_212) rfl rfl rfl (by decide +kernel) hR
theorem zk_W_66 {R : Room} {s : State} {args : Array Value} (hts : ∀ w ∈ zW, w.before args s = true) {k : Nat} (hR : (zrm k).frames + 1 ≤ R.frames ∧ 8 + (6 + 11) + (zrm k).locals ≤ R.locals) : CallW R s args zR_W zR_T 66 zy_T_assign zb_T_assign 6 (some .boolean) zws_T_assign (zrm k) 0 0 3 :=
  cwV 3 hts (z_goodV zw_213 zw_214 zw_215 zw_2 zw_216) rfl rfl rfl (by decide +kernel) hR
theorem zk_L_47 {R : Room} {s : State} {args : Array Value} (hts : ∀ w ∈ zW, w.before args s = true) {k : Nat} (hR : (zrm k).frames + 1 ≤ R.frames ∧ 8 + (6 + 11) + (zrm k).locals ≤ R.locals) : CallW R s args zR_L zR_W 47 zy_W_aspect zb_W_aspect 6 (some .int) zws_W_aspect (zrm k) 0 0 5 :=
  cwV 5 hts (z_goodV zw_217 zw_218 zw_219 zw_1 zw_220) rfl rfl rfl (by decide +kernel) hR
theorem zk_W_70 {R : Room} {s : State} {args : Array Value} (hts : ∀ w ∈ zW, w.before args s = true) {k : Nat} (hR : (zrm k).frames + 1 ≤ R.frames ∧ 8 + (7 + 11) + (zrm k).locals ≤ R.locals) : CallW R s args zR_W zR_A 70 zy_A_open zb_A_open 7 (some .int) zws_A_open (zrm k) 0 0 5 :=
  cwV 5 hts (z_goodV zw_221 zw_222 zw_223 zw_3 zw_224) rfl rfl rfl (by decide +kernel) hR
theorem zk_L_52 {R : Room} {s : State} {args : Array Value} (hts : ∀ w ∈ zW, w.before args s = true) {k : Nat} (hR : (zrm k).frames + 1 ≤ R.frames ∧ 8 + (3 + 11) + (zrm k).locals ≤ R.locals) : CallW R s args zR_L zR_W 52 zy_W_need zb_W_need 3 (some .int) zws_W_need (zrm k) 0 0 2 :=
  cwV 2 hts (z_goodV zw_225 zw_226 zw_227 zw_1 zw_228) rfl rfl rfl (by decide +kernel) hR
theorem zk_W_73 {R : Room} {s : State} {args : Array Value} (hts : ∀ w ∈ zW, w.before args s = true) {k : Nat} (hR : (zrm k).frames + 1 ≤ R.frames ∧ 8 + (2 + 11) + (zrm k).locals ≤ R.locals) : CallW R s args zR_W zR_A 73 zy_A_has zb_A_has 2 (some .boolean) zws_A_has (zrm k) 0 0 1 :=
  cwV 1 hts (z_goodV zw_229 zw_230 zw_231 zw_3 zw_232) rfl rfl rfl (by decide +kernel) hR
theorem zk_W_74 {R : Room} {s : State} {args : Array Value} (hts : ∀ w ∈ zW, w.before args s = true) {k : Nat} (hR : (zrm k).frames + 1 ≤ R.frames ∧ 8 + (4 + 11) + (zrm k).locals ≤ R.locals) : CallW R s args zR_W zR_A 74 zy_A_needsDirectly zb_A_needsDirectly 4 (some .boolean) zws_A_needsDirectly (zrm k) 0 0 2 :=
  cwV 2 hts (z_goodV zw_233 zw_234 zw_235 zw_3 zw_236) rfl rfl rfl (by decide +kernel) hR
theorem zk_A_40 {R : Room} {s : State} {args : Array Value} (hts : ∀ w ∈ zW, w.before args s = true) {k : Nat} (hR : (zrm k).frames + 1 ≤ R.frames ∧ 8 + (3 + 11) + (zrm k).locals ≤ R.locals) : CallW R s args zR_A zR_A 40 zy_A_needAt zb_A_needAt 3 (some .int) zws_A_needAt (zrm k) 0 0 2 :=
  cwV 2 hts (z_goodV zw_237 zw_238 zw_239 zw_3 zw_240) rfl rfl rfl (by decide +kernel) hR
theorem zk_W_78 {R : Room} {s : State} {args : Array Value} (hts : ∀ w ∈ zW, w.before args s = true) {k : Nat} (hR : (zrm k).frames + 1 ≤ R.frames ∧ 8 + (2 + 11) + (zrm k).locals ≤ R.locals) : CallW R s args zR_W zR_A 78 zy_A_needCount zb_A_needCount 2 (some .int) zws_A_needCount (zrm k) 0 0 1 :=
  cwV 1 hts (z_goodV zw_241 zw_242 zw_243 zw_3 zw_244) rfl rfl rfl (by decide +kernel) hR
theorem zk_W_81 {R : Room} {s : State} {args : Array Value} (hts : ∀ w ∈ zW, w.before args s = true) {k : Nat} (hR : (zrm k).frames + 1 ≤ R.frames ∧ 8 + (3 + 11) + (zrm k).locals ≤ R.locals) : CallW R s args zR_W zR_A 81 zy_A_leadsTo zb_A_leadsTo 3 (some .boolean) zws_A_leadsTo (zrm k) 0 0 2 :=
  cwV 2 hts (z_goodV zw_245 zw_246 zw_247 zw_3 zw_248) rfl rfl rfl (by decide +kernel) hR
theorem zk_W_84 {R : Room} {s : State} {args : Array Value} (hts : ∀ w ∈ zW, w.before args s = true) {k : Nat} (hR : (zrm k).frames + 1 ≤ R.frames ∧ 8 + (4 + 11) + (zrm k).locals ≤ R.locals) : CallW R s args zR_W zR_A 84 zy_A_appendNeed zb_A_appendNeed 4 none zws_A_appendNeed (zrm k) 0 0 2 :=
  cwV 2 hts (z_goodV zw_249 zw_250 zw_251 zw_3 zw_252) rfl rfl rfl (by decide +kernel) hR
theorem zk_A_44 {R : Room} {s : State} {args : Array Value} (hts : ∀ w ∈ zW, w.before args s = true) {k : Nat} (hR : (zrm k).frames + 1 ≤ R.frames ∧ 8 + (3 + 11) + (zrm k).locals ≤ R.locals) : CallW R s args zR_A zR_A 44 zy_A_leadsTo zb_A_leadsTo 3 (some .boolean) zws_A_leadsTo (zrm k) 0 0 2 :=
  cwV 2 hts (z_goodV zw_253 zw_246 zw_247 zw_3 zw_248) rfl rfl rfl (by decide +kernel) hR
theorem zk_W_88 {R : Room} {s : State} {args : Array Value} (hts : ∀ w ∈ zW, w.before args s = true) {k : Nat} (hR : (zrm k).frames + 1 ≤ R.frames ∧ 8 + (4 + 11) + (zrm k).locals ≤ R.locals) : CallW R s args zR_W zR_W 88 zy_W_forgetAllOf zb_W_forgetAllOf 4 none zws_W_forgetAllOf (zrm k) 0 0 1 :=
  cwV 1 hts (z_goodV zw_254 zw_256 zsel_W_forgetAllOf zw_1 zw_257) rfl rfl rfl (by decide +kernel) hR
theorem zk_L_57 {R : Room} {s : State} {args : Array Value} (hts : ∀ w ∈ zW, w.before args s = true) {k : Nat} (hR : (zrm k).frames + 1 ≤ R.frames ∧ 8 + (4 + 11) + (zrm k).locals ≤ R.locals) : CallW R s args zR_L zR_W 57 zy_W_apply zb_W_apply 4 (some .int) zws_W_apply (zrm k) 0 0 3 :=
  cwV 3 hts (z_goodV zw_258 zw_259 zw_260 zw_1 zw_261) rfl rfl rfl (by decide +kernel) hR
theorem zk_W_91 {R : Room} {s : State} {args : Array Value} (hts : ∀ w ∈ zW, w.before args s = true) {k : Nat} (hR : (zrm k).frames + 1 ≤ R.frames ∧ 8 + (4 + 11) + (zrm k).locals ≤ R.locals) : CallW R s args zR_W zR_W 91 zy_W_isAsked zb_W_isAsked 4 (some .boolean) zws_W_isAsked (zrm k) 0 0 3 :=
  cwV 3 hts (z_goodV zw_262 zw_264 zsel_W_isAsked zw_1 zw_265) rfl rfl rfl (by decide +kernel) hR
theorem zk_W_94 {R : Room} {s : State} {args : Array Value} (hts : ∀ w ∈ zW, w.before args s = true) {k : Nat} (hR : (zrm k).frames + 1 ≤ R.frames ∧ 8 + (8 + 11) + (zrm k).locals ≤ R.locals) : CallW R s args zR_W zR_W 94 zy_W_doing zb_W_doing 8 (some .int) zws_W_doing (zrm k) 0 0 4 :=
  cwV 4 hts (z_goodV zw_266 zw_268 zsel_W_doing zw_1 zw_269) rfl rfl rfl (by decide +kernel) hR
theorem zk_W_98 {R : Room} {s : State} {args : Array Value} (hts : ∀ w ∈ zW, w.before args s = true) {k : Nat} (hR : (zrm k).frames + 1 ≤ R.frames ∧ 8 + (5 + 11) + (zrm k).locals ≤ R.locals) : CallW R s args zR_W zR_M 98 zy_M_known zb_M_known 5 (some .int) zws_M_known (zrm k) 0 0 3 :=
  cwV 3 hts (z_goodV zw_270 zw_271 zw_272 zw_4 zw_273) rfl rfl rfl (by decide +kernel) hR
theorem zk_W_129 {R : Room} {s : State} {args : Array Value} (hts : ∀ w ∈ zW, w.before args s = true) {k : Nat} (hR : (zrm k).frames + 1 ≤ R.frames ∧ 8 + (7 + 11) + (zrm k).locals ≤ R.locals) : CallW R s args zR_W zR_W 129 zy_W_doNeeds zb_W_doNeeds 7 (some .int) zws_W_doNeeds (zrm k) 0 0 4 :=
  cwV 4 hts (z_goodV zw_274 zw_276 zsel_W_doNeeds zw_1 zw_277) rfl rfl rfl (by decide +kernel) hR
theorem zk_W_152 {R : Room} {s : State} {args : Array Value} (hts : ∀ w ∈ zW, w.before args s = true) {k : Nat} (hR : (zrm k).frames + 1 ≤ R.frames ∧ 8 + (3 + 11) + (zrm k).locals ≤ R.locals) : CallW R s args zR_W zR_A 152 zy_A_needAt zb_A_needAt 3 (some .int) zws_A_needAt (zrm k) 0 0 2 :=
  cwV 2 hts (z_goodV zw_278 zw_238 zw_239 zw_3 zw_240) rfl rfl rfl (by decide +kernel) hR
theorem zk_W_132 {R : Room} {s : State} {args : Array Value} (hts : ∀ w ∈ zW, w.before args s = true) {k : Nat} (hR : (zrm k).frames + 1 ≤ R.frames ∧ 8 + (7 + 11) + (zrm k).locals ≤ R.locals) : CallW R s args zR_W zR_W 132 zy_W_lacksProvider zb_W_lacksProvider 7 (some .boolean) zws_W_lacksProvider (zrm k) 0 0 3 :=
  cwV 3 hts (z_goodV zw_279 zw_281 zsel_W_lacksProvider zw_1 zw_282) rfl rfl rfl (by decide +kernel) hR
theorem zk_W_167 {R : Room} {s : State} {args : Array Value} (hts : ∀ w ∈ zW, w.before args s = true) {k : Nat} (hR : (zrm k).frames + 1 ≤ R.frames ∧ 8 + (2 + 11) + (zrm k).locals ≤ R.locals) : CallW R s args zR_W zR_T 167 zy_T_providersOf zb_T_providersOf 2 (some .int) zws_T_providersOf (zrm k) 0 0 1 :=
  cwV 1 hts (z_goodV zw_283 zw_284 zw_285 zw_2 zw_286) rfl rfl rfl (by decide +kernel) hR
theorem zk_W_170 {R : Room} {s : State} {args : Array Value} (hts : ∀ w ∈ zW, w.before args s = true) {k : Nat} (hR : (zrm k).frames + 1 ≤ R.frames ∧ 8 + (2 + 11) + (zrm k).locals ≤ R.locals) : CallW R s args zR_W zR_A 170 zy_A_givesOf zb_A_givesOf 2 (some .int) zws_A_givesOf (zrm k) 0 0 1 :=
  cwV 1 hts (z_goodV zw_287 zw_288 zw_289 zw_3 zw_290) rfl rfl rfl (by decide +kernel) hR
theorem zk_W_173 {R : Room} {s : State} {args : Array Value} (hts : ∀ w ∈ zW, w.before args s = true) {k : Nat} (hR : (zrm k).frames + 1 ≤ R.frames ∧ 8 + (2 + 11) + (zrm k).locals ≤ R.locals) : CallW R s args zR_W zR_A 173 zy_A_wantsOf zb_A_wantsOf 2 (some .int) zws_A_wantsOf (zrm k) 0 0 1 :=
  cwV 1 hts (z_goodV zw_291 zw_292 zw_293 zw_3 zw_294) rfl rfl rfl (by decide +kernel) hR
theorem zk_W_135 {R : Room} {s : State} {args : Array Value} (hts : ∀ w ∈ zW, w.before args s = true) {k : Nat} (hR : (zrm k).frames + 1 ≤ R.frames ∧ 8 + (4 + 11) + (zrm k).locals ≤ R.locals) : CallW R s args zR_W zR_M 135 zy_M_keepPassed zb_M_keepPassed 4 none zws_M_keepPassed (zrm k) 0 0 3 :=
  cwV 3 hts (z_goodV zw_295 zw_296 zw_297 zw_4 zw_298) rfl rfl rfl (by decide +kernel) hR
theorem zk_W_139 {R : Room} {s : State} {args : Array Value} (hts : ∀ w ∈ zW, w.before args s = true) {k : Nat} (hR : (zrm k).frames + 1 ≤ R.frames ∧ 8 + (9 + 11) + (zrm k).locals ≤ R.locals) : CallW R s args zR_W zR_W 139 zy_W_doBelow zb_W_doBelow 9 (some .int) zws_W_doBelow (zrm k) 0 0 4 :=
  cwV 4 hts (z_goodV zw_299 zw_301 zsel_W_doBelow zw_1 zw_302) rfl rfl rfl (by decide +kernel) hR
theorem zk_W_155 {R : Room} {s : State} {args : Array Value} (hts : ∀ w ∈ zW, w.before args s = true) {k : Nat} (hR : (zrm k).frames + 1 ≤ R.frames ∧ 8 + (4 + 11) + (zrm k).locals ≤ R.locals) : CallW R s args zR_W zR_W 155 zy_W_lengthAlong zb_W_lengthAlong 4 (some .int) zws_W_lengthAlong (zrm k) 0 0 3 :=
  cwV 3 hts (z_goodV zw_303 zw_305 zsel_W_lengthAlong zw_1 zw_306) rfl rfl rfl (by decide +kernel) hR
theorem zk_W_161 {R : Room} {s : State} {args : Array Value} (hts : ∀ w ∈ zW, w.before args s = true) {k : Nat} (hR : (zrm k).frames + 1 ≤ R.frames ∧ 8 + (3 + 11) + (zrm k).locals ≤ R.locals) : CallW R s args zR_W zR_A 161 zy_A_goesAlong zb_A_goesAlong 3 (some .boolean) zws_A_goesAlong (zrm k) 0 0 2 :=
  cwV 2 hts (z_goodV zw_307 zw_308 zw_309 zw_3 zw_310) rfl rfl rfl (by decide +kernel) hR
theorem zk_W_164 {R : Room} {s : State} {args : Array Value} (hts : ∀ w ∈ zW, w.before args s = true) {k : Nat} (hR : (zrm k).frames + 1 ≤ R.frames ∧ 8 + (3 + 11) + (zrm k).locals ≤ R.locals) : CallW R s args zR_W zR_T 164 zy_T_rowLength zb_T_rowLength 3 (some .int) zws_T_rowLength (zrm k) 0 0 2 :=
  cwV 2 hts (z_goodV zw_311 zw_312 zw_313 zw_2 zw_314) rfl rfl rfl (by decide +kernel) hR
theorem zk_W_158 {R : Room} {s : State} {args : Array Value} (hts : ∀ w ∈ zW, w.before args s = true) {k : Nat} (hR : (zrm k).frames + 1 ≤ R.frames ∧ 8 + (4 + 11) + (zrm k).locals ≤ R.locals) : CallW R s args zR_W zR_T 158 zy_T_rowAt zb_T_rowAt 4 (some .int) zws_T_rowAt (zrm k) 0 0 3 :=
  cwV 3 hts (z_goodV zw_315 zw_316 zw_317 zw_2 zw_318) rfl rfl rfl (by decide +kernel) hR
theorem zk_W_142 {R : Room} {s : State} {args : Array Value} (hts : ∀ w ∈ zW, w.before args s = true) {k : Nat} (hR : (zrm k).frames + 1 ≤ R.frames ∧ 8 + (6 + 11) + (zrm k).locals ≤ R.locals) : CallW R s args zR_W zR_W 142 zy_W_makeOutput zb_W_makeOutput 6 (some .boolean) zws_W_makeOutput (zrm k) 0 0 3 :=
  cwV 3 hts (z_goodV zw_319 zw_321 zsel_W_makeOutput zw_1 zw_322) rfl rfl rfl (by decide +kernel) hR
theorem zk_W_126 {R : Room} {s : State} {args : Array Value} (hts : ∀ w ∈ zW, w.before args s = true) {k : Nat} (hR : (zrm k).frames + 1 ≤ R.frames ∧ 8 + (3 + 11) + (zrm k).locals ≤ R.locals) : CallW R s args zR_W zR_M 126 zy_M_makerOf zb_M_makerOf 3 (some .int) zws_M_makerOf (zrm k) 0 0 2 :=
  cwV 2 hts (z_goodV zw_323 zw_206 zw_207 zw_4 zw_208) rfl rfl rfl (by decide +kernel) hR
theorem zk_W_179 {R : Room} {s : State} {args : Array Value} (hts : ∀ w ∈ zW, w.before args s = true) {k : Nat} (hR : (zrm k).frames + 1 ≤ R.frames ∧ 8 + (5 + 11) + (zrm k).locals ≤ R.locals) : CallW R s args zR_W zR_M 179 zy_M_keepMaker zb_M_keepMaker 5 none zws_M_keepMaker (zrm k) 0 0 4 :=
  cwV 4 hts (z_goodV zw_324 zw_325 zw_326 zw_4 zw_327) rfl rfl rfl (by decide +kernel) hR
theorem zk_W_183 {R : Room} {s : State} {args : Array Value} (hts : ∀ w ∈ zW, w.before args s = true) {k : Nat} (hR : (zrm k).frames + 1 ≤ R.frames ∧ 8 + (3 + 11) + (zrm k).locals ≤ R.locals) : CallW R s args zR_W zR_M 183 zy_M_makerSettingOf zb_M_makerSettingOf 3 (some .int) zws_M_makerSettingOf (zrm k) 0 0 2 :=
  cwV 2 hts (z_goodV zw_328 zw_329 zw_330 zw_4 zw_331) rfl rfl rfl (by decide +kernel) hR
theorem zk_W_145 {R : Room} {s : State} {args : Array Value} (hts : ∀ w ∈ zW, w.before args s = true) {k : Nat} (hR : (zrm k).frames + 1 ≤ R.frames ∧ 8 + (9 + 11) + (zrm k).locals ≤ R.locals) : CallW R s args zR_W zR_W 145 zy_W_joined zb_W_joined 9 (some .long) zws_W_joined (zrm k) 0 0 3 :=
  cwV 3 hts (z_goodV zw_332 zw_334 zsel_W_joined zw_1 zw_335) rfl rfl rfl (by decide +kernel) hR
theorem zk_W_186 {R : Room} {s : State} {args : Array Value} (hts : ∀ w ∈ zW, w.before args s = true) {k : Nat} (hR : (zrm k).frames + 1 ≤ R.frames ∧ 8 + (2 + 11) + (zrm k).locals ≤ R.locals) : CallW R s args zR_W zR_A 186 zy_A_kindOf zb_A_kindOf 2 (some .int) zws_A_kindOf (zrm k) 0 0 1 :=
  cwV 1 hts (z_goodV zw_336 zw_337 zw_338 zw_3 zw_339) rfl rfl rfl (by decide +kernel) hR
theorem zk_W_189 {R : Room} {s : State} {args : Array Value} (hts : ∀ w ∈ zW, w.before args s = true) {k : Nat} (hR : (zrm k).frames + 1 ≤ R.frames ∧ 8 + (2 + 11) + (zrm k).locals ≤ R.locals) : CallW R s args zR_W zR_T 189 zy_T_valueOf zb_T_valueOf 2 (some .long) zws_T_valueOf (zrm k) 0 0 1 :=
  cwV 1 hts (z_goodV zw_340 zw_341 zw_342 zw_2 zw_343) rfl rfl rfl (by decide +kernel) hR
theorem zk_W_193 {R : Room} {s : State} {args : Array Value} (hts : ∀ w ∈ zW, w.before args s = true) {k : Nat} (hR : (zrm k).frames + 1 ≤ R.frames ∧ 8 + (13 + 11) + (zrm k).locals ≤ R.locals) : CallW R s args zR_W zR_W 193 zy_W_joinBelow zb_W_joinBelow 13 (some .long) zws_W_joinBelow (zrm k) 0 0 4 :=
  cwV 4 hts (z_goodV zw_344 zw_346 zsel_W_joinBelow zw_1 zw_347) rfl rfl rfl (by decide +kernel) hR
theorem zk_W_200 {R : Room} {s : State} {args : Array Value} (hts : ∀ w ∈ zW, w.before args s = true) {k : Nat} (hR : (zrm k).frames + 1 ≤ R.frames ∧ 8 + (9 + 11) + (zrm k).locals ≤ R.locals) : CallW R s args zR_W zR_W 200 zy_W_joinPart zb_W_joinPart 9 (some .long) zws_W_joinPart (zrm k) 0 0 5 :=
  cwV 5 hts (z_goodV zw_348 zw_350 zsel_W_joinPart zw_1 zw_351) rfl rfl rfl (by decide +kernel) hR
theorem zk_W_114 {R : Room} {s : State} {args : Array Value} (hts : ∀ w ∈ zW, w.before args s = true) {k : Nat} (hR : (zrm k).frames + 1 ≤ R.frames ∧ 8 + (4 + 11) + (zrm k).locals ≤ R.locals) : CallW R s args zR_W zR_M 114 zy_M_resultOf zb_M_resultOf 4 (some .long) zws_M_resultOf (zrm k) 0 0 3 :=
  cwV 3 hts (z_goodV zw_352 zw_353 zw_354 zw_4 zw_355) rfl rfl rfl (by decide +kernel) hR
theorem zk_W_204 {R : Room} {s : State} {args : Array Value} (hts : ∀ w ∈ zW, w.before args s = true) {k : Nat} (hR : (zrm k).frames + 1 ≤ R.frames ∧ 8 + (4 + 11) + (zrm k).locals ≤ R.locals) : CallB R s args zR_W 204 zy_Jm_max zb_Jm_max 4 (some .long) zws_Jm_max (zrm k) 0 0 2 ∧ (Cond.static zy_Jm_max).before args s = true :=
  va_cwS 2 hts (z_goodS zw_356 zw_357 zw_8 zw_358) rfl rfl rfl (by decide +kernel) hR
theorem zk_W_197 {R : Room} {s : State} {args : Array Value} (hts : ∀ w ∈ zW, w.before args s = true) {k : Nat} (hR : (zrm k).frames + 1 ≤ R.frames ∧ 8 + (10 + 11) + (zrm k).locals ≤ R.locals) : CallW R s args zR_W zR_W 197 zy_W_joinNeeds zb_W_joinNeeds 10 (some .long) zws_W_joinNeeds (zrm k) 0 0 4 :=
  cwV 4 hts (z_goodV zw_360 zw_362 zsel_W_joinNeeds zw_1 zw_363) rfl rfl rfl (by decide +kernel) hR
theorem zk_W_148 {R : Room} {s : State} {args : Array Value} (hts : ∀ w ∈ zW, w.before args s = true) {k : Nat} (hR : (zrm k).frames + 1 ≤ R.frames ∧ 8 + (7 + 11) + (zrm k).locals ≤ R.locals) : CallW R s args zR_W zR_M 148 zy_M_keepDone zb_M_keepDone 7 none zws_M_keepDone (zrm k) 0 0 4 :=
  cwV 4 hts (z_goodV zw_364 zw_365 zw_366 zw_4 zw_367) rfl rfl rfl (by decide +kernel) hR
theorem zk_L_62 {R : Room} {s : State} {args : Array Value} (hts : ∀ w ∈ zW, w.before args s = true) {k : Nat} (hR : (zrm k).frames + 1 ≤ R.frames ∧ 8 + (2 + 11) + (zrm k).locals ≤ R.locals) : CallW R s args zR_L zR_W 62 zy_W_clash zb_W_clash 2 (some .int) zws_W_clash (zrm k) 0 0 1 :=
  cwV 1 hts (z_goodV zw_368 zw_369 zw_370 zw_1 zw_371) rfl rfl rfl (by decide +kernel) hR
theorem zk_L_66 {R : Room} {s : State} {args : Array Value} (hts : ∀ w ∈ zW, w.before args s = true) {k : Nat} (hR : (zrm k).frames + 1 ≤ R.frames ∧ 8 + (4 + 11) + (zrm k).locals ≤ R.locals) : CallW R s args zR_L zR_W 66 zy_W_state zb_W_state 4 (some .int) zws_W_state (zrm k) 0 0 3 :=
  cwV 3 hts (z_goodV zw_372 zw_373 zw_374 zw_1 zw_375) rfl rfl rfl (by decide +kernel) hR
theorem zk_L_80 {R : Room} {s : State} {args : Array Value} (hts : ∀ w ∈ zW, w.before args s = true) {k : Nat} (hR : (zrm k).frames + 1 ≤ R.frames ∧ 8 + (3 + 11) + (zrm k).locals ≤ R.locals) : CallW R s args zR_L zR_W 80 zy_W_worked zb_W_worked 3 (some .int) zws_W_worked (zrm k) 0 0 2 :=
  cwV 2 hts (z_goodV zw_376 zw_377 zw_378 zw_1 zw_379) rfl rfl rfl (by decide +kernel) hR
theorem zk_W_118 {R : Room} {s : State} {args : Array Value} (hts : ∀ w ∈ zW, w.before args s = true) {k : Nat} (hR : (zrm k).frames + 1 ≤ R.frames ∧ 8 + (3 + 11) + (zrm k).locals ≤ R.locals) : CallW R s args zR_W zR_M 118 zy_M_timesDone zb_M_timesDone 3 (some .int) zws_M_timesDone (zrm k) 0 0 2 :=
  cwV 2 hts (z_goodV zw_380 zw_381 zw_382 zw_4 zw_383) rfl rfl rfl (by decide +kernel) hR
theorem zk_L_84 {R : Room} {s : State} {args : Array Value} (hts : ∀ w ∈ zW, w.before args s = true) {k : Nat} (hR : (zrm k).frames + 1 ≤ R.frames ∧ 8 + (1 + 11) + (zrm k).locals ≤ R.locals) : CallW R s args zR_L zR_W 84 zy_W_done zb_W_done 1 (some .int) zws_W_done (zrm k) 0 0 0 :=
  cwV 0 hts (z_goodV zw_384 zw_385 zw_386 zw_1 zw_387) rfl rfl rfl (by decide +kernel) hR
theorem zk_W_122 {R : Room} {s : State} {args : Array Value} (hts : ∀ w ∈ zW, w.before args s = true) {k : Nat} (hR : (zrm k).frames + 1 ≤ R.frames ∧ 8 + (1 + 11) + (zrm k).locals ≤ R.locals) : CallW R s args zR_W zR_M 122 zy_M_doneCount zb_M_doneCount 1 (some .int) zws_M_doneCount (zrm k) 0 0 0 :=
  cwV 0 hts (z_goodV zw_388 zw_389 zw_390 zw_4 zw_391) rfl rfl rfl (by decide +kernel) hR
theorem zk_L_88 {R : Room} {s : State} {args : Array Value} (hts : ∀ w ∈ zW, w.before args s = true) {k : Nat} (hR : (zrm k).frames + 1 ≤ R.frames ∧ 8 + (3 + 11) + (zrm k).locals ≤ R.locals) : CallW R s args zR_L zR_W 88 zy_W_maker zb_W_maker 3 (some .int) zws_W_maker (zrm k) 0 0 2 :=
  cwV 2 hts (z_goodV zw_392 zw_393 zw_394 zw_1 zw_395) rfl rfl rfl (by decide +kernel) hR
theorem zk_L_7 {R : Room} {s : State} {args : Array Value} (hts : ∀ w ∈ zW, w.before args s = true) {k : Nat} (hR : (zrm k).frames + 1 ≤ R.frames ∧ 8 + (5 + 11) + (zrm k).locals ≤ R.locals) : CallW R s args zR_L zR_W 7 zy_W_result zb_W_result 5 (some .long) zws_W_result (zrm k) 0 0 3 :=
  cwV 3 hts (z_goodV zw_401 zw_402 zw_403 zw_1 zw_404) rfl rfl rfl (by decide +kernel) hR
theorem zk_L_76 {R : Room} {s : State} {args : Array Value} (hts : ∀ w ∈ zW, w.before args s = true) {k : Nat} (hR : (zrm k).frames + 1 ≤ R.frames ∧ 8 + (1 + 11) + (zrm k).locals ≤ R.locals) : CallW R s args zR_L zR_R 76 zy_R_thrown zb_R_thrown 1 (some .int) zws_R_thrown (zrm k) 0 0 0 :=
  cwV 0 hts (z_goodV zw_574 zw_575 zw_576 zw_6 zw_577) rfl rfl rfl (by decide +kernel) hR
theorem zk_L_27 {R : Room} {s : State} {args : Array Value} (hts : ∀ w ∈ zW, w.before args s = true) {k : Nat} (hR : (zrm k).frames + 1 ≤ R.frames ∧ 8 + (4 + 11) + (zrm k).locals ≤ R.locals) : CallW R s args zR_L zR_R 27 zy_R_target zb_R_target 4 (some .int) zws_R_target (zrm k) 0 0 2 :=
  cwV 2 hts (z_goodV zw_578 zw_579 zw_580 zw_6 zw_581) rfl rfl rfl (by decide +kernel) hR
theorem zk_L_32 {R : Room} {s : State} {args : Array Value} (hts : ∀ w ∈ zW, w.before args s = true) {k : Nat} (hR : (zrm k).frames + 1 ≤ R.frames ∧ 8 + (2 + 11) + (zrm k).locals ≤ R.locals) : CallW R s args zR_L zR_R 32 zy_R_alias zb_R_alias 2 (some .int) zws_R_alias (zrm k) 0 0 1 :=
  cwV 1 hts (z_goodV zw_582 zw_583 zw_584 zw_6 zw_585) rfl rfl rfl (by decide +kernel) hR
theorem zk_R_82 {R : Room} {s : State} {args : Array Value} (hts : ∀ w ∈ zW, w.before args s = true) {k : Nat} (hR : (zrm k).frames + 1 ≤ R.frames ∧ 8 + (2 + 11) + (zrm k).locals ≤ R.locals) : CallW R s args zR_R zR_R 82 zy_R_isTarget zb_R_isTarget 2 (some .boolean) zws_R_isTarget (zrm k) 0 0 1 :=
  cwV 1 hts (z_goodV zw_586 zw_588 zsel_R_isTarget zw_6 zw_589) rfl rfl rfl (by decide +kernel) hR
theorem zk_L_36 {R : Room} {s : State} {args : Array Value} (hts : ∀ w ∈ zW, w.before args s = true) {k : Nat} (hR : (zrm k).frames + 1 ≤ R.frames ∧ 8 + (2 + 11) + (zrm k).locals ≤ R.locals) : CallW R s args zR_L zR_R 36 zy_R_stands zb_R_stands 2 (some .int) zws_R_stands (zrm k) 0 0 1 :=
  cwV 1 hts (z_goodV zw_590 zw_591 zw_592 zw_6 zw_593) rfl rfl rfl (by decide +kernel) hR
theorem zk_L_41 {R : Room} {s : State} {args : Array Value} (hts : ∀ w ∈ zW, w.before args s = true) {k : Nat} (hR : (zrm k).frames + 1 ≤ R.frames ∧ 8 + (4 + 11) + (zrm k).locals ≤ R.locals) : CallW R s args zR_L zR_R 41 zy_R_add zb_R_add 4 (some .boolean) zws_R_add (zrm k) 0 0 3 :=
  cwV 3 hts (z_goodV zw_594 zw_595 zw_596 zw_6 zw_597) rfl rfl rfl (by decide +kernel) hR
theorem zk_R_93 {R : Room} {s : State} {args : Array Value} (hts : ∀ w ∈ zW, w.before args s = true) {k : Nat} (hR : (zrm k).frames + 1 ≤ R.frames ∧ 8 + (2 + 11) + (zrm k).locals ≤ R.locals) : CallW R s args zR_R zR_R 93 zy_R_isOwn zb_R_isOwn 2 (some .boolean) zws_R_isOwn (zrm k) 0 0 1 :=
  cwV 1 hts (z_goodV zw_598 zw_600 zsel_R_isOwn zw_6 zw_601) rfl rfl rfl (by decide +kernel) hR
theorem zk_R_96 {R : Room} {s : State} {args : Array Value} (hts : ∀ w ∈ zW, w.before args s = true) {k : Nat} (hR : (zrm k).frames + 1 ≤ R.frames ∧ 8 + (3 + 11) + (zrm k).locals ≤ R.locals) : CallW R s args zR_R zR_R 96 zy_R_forgetFrom zb_R_forgetFrom 3 none zws_R_forgetFrom (zrm k) 0 0 1 :=
  cwV 1 hts (z_goodV zw_602 zw_604 zsel_R_forgetFrom zw_6 zw_605) rfl rfl rfl (by decide +kernel) hR
theorem zk_R_86 {R : Room} {s : State} {args : Array Value} (hts : ∀ w ∈ zW, w.before args s = true) {k : Nat} (hR : (zrm k).frames + 1 ≤ R.frames ∧ 8 + (5 + 11) + (zrm k).locals ≤ R.locals) : CallW R s args zR_R zR_R 86 zy_R_hasTouched zb_R_hasTouched 5 (some .boolean) zws_R_hasTouched (zrm k) 0 0 1 :=
  cwV 1 hts (z_goodV zw_606 zw_608 zsel_R_hasTouched zw_6 zw_609) rfl rfl rfl (by decide +kernel) hR
theorem zk_R_89 {R : Room} {s : State} {args : Array Value} (hts : ∀ w ∈ zW, w.before args s = true) {k : Nat} (hR : (zrm k).frames + 1 ≤ R.frames ∧ 8 + (3 + 11) + (zrm k).locals ≤ R.locals) : CallW R s args zR_R zR_R 89 zy_R_forgetTarget zb_R_forgetTarget 3 none zws_R_forgetTarget (zrm k) 0 0 1 :=
  cwV 1 hts (z_goodV zw_610 zw_612 zsel_R_forgetTarget zw_6 zw_613) rfl rfl rfl (by decide +kernel) hR
theorem zk_L_46 {R : Room} {s : State} {args : Array Value} (hts : ∀ w ∈ zW, w.before args s = true) {k : Nat} (hR : (zrm k).frames + 1 ≤ R.frames ∧ 8 + (6 + 11) + (zrm k).locals ≤ R.locals) : CallW R s args zR_L zR_R 46 zy_R_change zb_R_change 6 (some .boolean) zws_R_change (zrm k) 0 0 3 :=
  cwV 3 hts (z_goodV zw_614 zw_615 zw_616 zw_6 zw_617) rfl rfl rfl (by decide +kernel) hR
theorem zk_L_51 {R : Room} {s : State} {args : Array Value} (hts : ∀ w ∈ zW, w.before args s = true) {k : Nat} (hR : (zrm k).frames + 1 ≤ R.frames ∧ 8 + (6 + 11) + (zrm k).locals ≤ R.locals) : CallW R s args zR_L zR_R 51 zy_R_aspect zb_R_aspect 6 (some .int) zws_R_aspect (zrm k) 0 0 5 :=
  cwV 5 hts (z_goodV zw_618 zw_619 zw_620 zw_6 zw_621) rfl rfl rfl (by decide +kernel) hR
theorem zk_L_56 {R : Room} {s : State} {args : Array Value} (hts : ∀ w ∈ zW, w.before args s = true) {k : Nat} (hR : (zrm k).frames + 1 ≤ R.frames ∧ 8 + (5 + 11) + (zrm k).locals ≤ R.locals) : CallW R s args zR_L zR_R 56 zy_R_need zb_R_need 5 (some .int) zws_R_need (zrm k) 0 0 2 :=
  cwV 2 hts (z_goodV zw_622 zw_623 zw_624 zw_6 zw_625) rfl rfl rfl (by decide +kernel) hR
theorem zk_R_107 {R : Room} {s : State} {args : Array Value} (hts : ∀ w ∈ zW, w.before args s = true) {k : Nat} (hR : (zrm k).frames + 1 ≤ R.frames ∧ 8 + (2 + 11) + (zrm k).locals ≤ R.locals) : CallW R s args zR_R zR_R 107 zy_R_isAspect zb_R_isAspect 2 (some .boolean) zws_R_isAspect (zrm k) 0 0 1 :=
  cwV 1 hts (z_goodV zw_626 zw_628 zsel_R_isAspect zw_6 zw_629) rfl rfl rfl (by decide +kernel) hR
theorem zk_R_99 {R : Room} {s : State} {args : Array Value} (hts : ∀ w ∈ zW, w.before args s = true) {k : Nat} (hR : (zrm k).frames + 1 ≤ R.frames ∧ 8 + (5 + 11) + (zrm k).locals ≤ R.locals) : CallW R s args zR_R zR_R 99 zy_R_hasNeed zb_R_hasNeed 5 (some .boolean) zws_R_hasNeed (zrm k) 0 0 2 :=
  cwV 2 hts (z_goodV zw_630 zw_632 zsel_R_hasNeed zw_6 zw_633) rfl rfl rfl (by decide +kernel) hR
theorem zk_R_110 {R : Room} {s : State} {args : Array Value} (hts : ∀ w ∈ zW, w.before args s = true) {k : Nat} (hR : (zrm k).frames + 1 ≤ R.frames ∧ 8 + (6 + 11) + (zrm k).locals ≤ R.locals) : CallW R s args zR_R zR_R 110 zy_R_neederBits zb_R_neederBits 6 (some .int) zws_R_neederBits (zrm k) 0 0 1 :=
  cwV 1 hts (z_goodV zw_634 zw_636 zsel_R_neederBits zw_6 zw_637) rfl rfl rfl (by decide +kernel) hR
theorem zk_R_114 {R : Room} {s : State} {args : Array Value} (hts : ∀ w ∈ zW, w.before args s = true) {k : Nat} (hR : (zrm k).frames + 1 ≤ R.frames ∧ 8 + (5 + 11) + (zrm k).locals ≤ R.locals) : CallW R s args zR_R zR_R 114 zy_R_forgetAspect zb_R_forgetAspect 5 none zws_R_forgetAspect (zrm k) 0 0 1 :=
  cwV 1 hts (z_goodV zw_638 zw_640 zsel_R_forgetAspect zw_6 zw_641) rfl rfl rfl (by decide +kernel) hR
theorem zk_R_103 {R : Room} {s : State} {args : Array Value} (hts : ∀ w ∈ zW, w.before args s = true) {k : Nat} (hR : (zrm k).frames + 1 ≤ R.frames ∧ 8 + (3 + 11) + (zrm k).locals ≤ R.locals) : CallB R s args zR_R 103 zy_R_placeOf zb_R_placeOf 3 (some .int) zws_R_placeOf (zrm k) 0 0 3 ∧ (Cond.static zy_R_placeOf).before args s = true :=
  va_cwS 3 hts (z_goodS zw_642 zw_643 zw_6 zw_644) rfl rfl rfl (by decide +kernel) hR
theorem zk_L_61 {R : Room} {s : State} {args : Array Value} (hts : ∀ w ∈ zW, w.before args s = true) {k : Nat} (hR : (zrm k).frames + 1 ≤ R.frames ∧ 8 + (5 + 11) + (zrm k).locals ≤ R.locals) : CallW R s args zR_L zR_R 61 zy_R_apply zb_R_apply 5 (some .int) zws_R_apply (zrm k) 0 0 3 :=
  cwV 3 hts (z_goodV zw_645 zw_646 zw_647 zw_6 zw_648) rfl rfl rfl (by decide +kernel) hR
theorem zk_R_153 {R : Room} {s : State} {args : Array Value} (hts : ∀ w ∈ zW, w.before args s = true) {k : Nat} (hR : (zrm k).frames + 1 ≤ R.frames ∧ 8 + (1 + 11) + (zrm k).locals ≤ R.locals) : CallB R s args zR_R 153 zy_R_isSetting zb_R_isSetting 1 (some .boolean) zws_R_isSetting (zrm k) 0 0 1 ∧ (Cond.static zy_R_isSetting).before args s = true :=
  va_cwS 1 hts (z_goodS zw_649 zw_650 zw_6 zw_651) rfl rfl rfl (by decide +kernel) hR
theorem zk_R_123 {R : Room} {s : State} {args : Array Value} (hts : ∀ w ∈ zW, w.before args s = true) {k : Nat} (hR : (zrm k).frames + 1 ≤ R.frames ∧ 8 + (3 + 11) + (zrm k).locals ≤ R.locals) : CallW R s args zR_R zR_R 123 zy_R_push zb_R_push 3 none zws_R_push (zrm k) 0 0 2 :=
  cwV 2 hts (z_goodV zw_652 zw_654 zsel_R_push zw_6 zw_655) rfl rfl rfl (by decide +kernel) hR
theorem zk_R_156 {R : Room} {s : State} {args : Array Value} (hts : ∀ w ∈ zW, w.before args s = true) {k : Nat} (hR : (zrm k).frames + 1 ≤ R.frames ∧ 8 + (4 + 11) + (zrm k).locals ≤ R.locals) : CallW R s args zR_R zR_R 156 zy_R_goOn zb_R_goOn 4 none zws_R_goOn (zrm k) 0 0 0 :=
  cwV 0 hts (z_goodV zw_656 zw_658 zsel_R_goOn zw_6 zw_659) rfl rfl rfl (by decide +kernel) hR
theorem zk_R_133 {R : Room} {s : State} {args : Array Value} (hts : ∀ w ∈ zW, w.before args s = true) {k : Nat} (hR : (zrm k).frames + 1 ≤ R.frames ∧ 8 + (5 + 11) + (zrm k).locals ≤ R.locals) : CallW R s args zR_R zR_R 133 zy_R_waitsForNeed zb_R_waitsForNeed 5 (some .boolean) zws_R_waitsForNeed (zrm k) 0 0 2 :=
  cwV 2 hts (z_goodV zw_660 zw_662 zsel_R_waitsForNeed zw_6 zw_663) rfl rfl rfl (by decide +kernel) hR
theorem zk_R_136 {R : Room} {s : State} {args : Array Value} (hts : ∀ w ∈ zW, w.before args s = true) {k : Nat} (hR : (zrm k).frames + 1 ≤ R.frames ∧ 8 + (6 + 11) + (zrm k).locals ≤ R.locals) : CallW R s args zR_R zR_R 136 zy_R_hasAllWanted zb_R_hasAllWanted 6 (some .boolean) zws_R_hasAllWanted (zrm k) 0 0 2 :=
  cwV 2 hts (z_goodV zw_664 zw_666 zsel_R_hasAllWanted zw_6 zw_667) rfl rfl rfl (by decide +kernel) hR
theorem zk_R_139 {R : Room} {s : State} {args : Array Value} (hts : ∀ w ∈ zW, w.before args s = true) {k : Nat} (hR : (zrm k).frames + 1 ≤ R.frames ∧ 8 + (6 + 11) + (zrm k).locals ≤ R.locals) : CallW R s args zR_R zR_R 139 zy_R_waitsForTarget zb_R_waitsForTarget 6 (some .boolean) zws_R_waitsForTarget (zrm k) 0 0 2 :=
  cwV 2 hts (z_goodV zw_668 zw_670 zsel_R_waitsForTarget zw_6 zw_671) rfl rfl rfl (by decide +kernel) hR
theorem zk_R_142 {R : Room} {s : State} {args : Array Value} (hts : ∀ w ∈ zW, w.before args s = true) {k : Nat} (hR : (zrm k).frames + 1 ≤ R.frames ∧ 8 + (5 + 11) + (zrm k).locals ≤ R.locals) : CallW R s args zR_R zR_R 142 zy_R_makes zb_R_makes 5 (some .boolean) zws_R_makes (zrm k) 0 0 2 :=
  cwV 2 hts (z_goodV zw_672 zw_674 zsel_R_makes zw_6 zw_675) rfl rfl rfl (by decide +kernel) hR
theorem zk_R_149 {R : Room} {s : State} {args : Array Value} (hts : ∀ w ∈ zW, w.before args s = true) {k : Nat} (hR : (zrm k).frames + 1 ≤ R.frames ∧ 8 + (8 + 11) + (zrm k).locals ≤ R.locals) : CallW R s args zR_R zR_R 149 zy_R_resultOf zb_R_resultOf 8 (some .long) zws_R_resultOf (zrm k) 0 0 2 :=
  cwV 2 hts (z_goodV zw_676 zw_678 zsel_R_resultOf zw_6 zw_679) rfl rfl rfl (by decide +kernel) hR
theorem zk_R_129 {R : Room} {s : State} {args : Array Value} (hts : ∀ w ∈ zW, w.before args s = true) {k : Nat} (hR : (zrm k).frames + 1 ≤ R.frames ∧ 8 + (5 + 11) + (zrm k).locals ≤ R.locals) : CallB R s args zR_R 129 zy_R_with zb_R_with 5 (some .long) zws_R_with (zrm k) 0 0 3 ∧ (Cond.static zy_R_with).before args s = true :=
  va_cwS 3 hts (z_goodS zw_680 zw_681 zw_6 zw_682) rfl rfl rfl (by decide +kernel) hR
theorem zk_L_65 {R : Room} {s : State} {args : Array Value} (hts : ∀ w ∈ zW, w.before args s = true) {k : Nat} (hR : (zrm k).frames + 1 ≤ R.frames ∧ 8 + (2 + 11) + (zrm k).locals ≤ R.locals) : CallW R s args zR_L zR_R 65 zy_R_clash zb_R_clash 2 (some .int) zws_R_clash (zrm k) 0 0 1 :=
  cwV 1 hts (z_goodV zw_684 zw_685 zw_686 zw_6 zw_687) rfl rfl rfl (by decide +kernel) hR
theorem zk_L_69 {R : Room} {s : State} {args : Array Value} (hts : ∀ w ∈ zW, w.before args s = true) {k : Nat} (hR : (zrm k).frames + 1 ≤ R.frames ∧ 8 + (4 + 11) + (zrm k).locals ≤ R.locals) : CallW R s args zR_L zR_R 69 zy_R_state zb_R_state 4 (some .int) zws_R_state (zrm k) 0 0 3 :=
  cwV 3 hts (z_goodV zw_688 zw_689 zw_690 zw_6 zw_691) rfl rfl rfl (by decide +kernel) hR
theorem zk_L_75 {R : Room} {s : State} {args : Array Value} (hts : ∀ w ∈ zW, w.before args s = true) {k : Nat} (hR : (zrm k).frames + 1 ≤ R.frames ∧ 8 + (4 + 11) + (zrm k).locals ≤ R.locals) : CallW R s args zR_L zR_R 75 zy_R_result zb_R_result 4 (some .long) zws_R_result (zrm k) 0 0 3 :=
  cwV 3 hts (z_goodV zw_692 zw_693 zw_694 zw_6 zw_695) rfl rfl rfl (by decide +kernel) hR
theorem zk_L_83 {R : Room} {s : State} {args : Array Value} (hts : ∀ w ∈ zW, w.before args s = true) {k : Nat} (hR : (zrm k).frames + 1 ≤ R.frames ∧ 8 + (3 + 11) + (zrm k).locals ≤ R.locals) : CallW R s args zR_L zR_R 83 zy_R_worked zb_R_worked 3 (some .int) zws_R_worked (zrm k) 0 0 2 :=
  cwV 2 hts (z_goodV zw_696 zw_697 zw_698 zw_6 zw_699) rfl rfl rfl (by decide +kernel) hR
theorem zk_L_87 {R : Room} {s : State} {args : Array Value} (hts : ∀ w ∈ zW, w.before args s = true) {k : Nat} (hR : (zrm k).frames + 1 ≤ R.frames ∧ 8 + (3 + 11) + (zrm k).locals ≤ R.locals) : CallW R s args zR_L zR_R 87 zy_R_done zb_R_done 3 (some .int) zws_R_done (zrm k) 0 0 0 :=
  cwV 0 hts (z_goodV zw_700 zw_701 zw_702 zw_6 zw_703) rfl rfl rfl (by decide +kernel) hR
theorem zk_L_91 {R : Room} {s : State} {args : Array Value} (hts : ∀ w ∈ zW, w.before args s = true) {k : Nat} (hR : (zrm k).frames + 1 ≤ R.frames ∧ 8 + (4 + 11) + (zrm k).locals ≤ R.locals) : CallW R s args zR_L zR_R 91 zy_R_maker zb_R_maker 4 (some .int) zws_R_maker (zrm k) 0 0 2 :=
  cwV 2 hts (z_goodV zw_704 zw_705 zw_706 zw_6 zw_707) rfl rfl rfl (by decide +kernel) hR
end
section
/-! contracts of the class's leaves (by program: wip/gen/leafs.py) -/
/-- a bit of a mask, as the class asks for it -/
def cLead (r : Int32) (o : Nat) : Nat := if (r >>> (nI o &&& 31)) &&& nI 1 = 0 then 0 else 1
def cHas (o : Nat) (x : Int32) : Nat := if x < 0 then 0 else if nI o ≤ x then 0 else 1
theorem cLead_le (r : Int32) (o : Nat) : cLead r o ≤ 1 := by unfold cLead; split <;> omega
theorem cLead_lt (r : Int32) (o : Nat) : cLead r o < 2 ^ 31 := Nat.lt_of_le_of_lt (cLead_le r o) (by decide)
theorem cHas_le (o : Nat) (x : Int32) : cHas o x ≤ 1 := by unfold cHas; split <;> (try split) <;> omega
theorem cHas_lt (o : Nat) (x : Int32) : cHas o x < 2 ^ 31 := Nat.lt_of_le_of_lt (cHas_le o x) (by decide)
def cKnown (σ : cS) (t a k : Nat) : Int32 := if (cM_doneSettings σ (t * 8 + a) >>> (nI k &&& 31)) &&& nI 1 = 0 then (if (cM_passedSettings σ (t * 8 + a) >>> (nI k &&& 31)) &&& nI 1 = 0 then -1 else nI 0) else nI 1

set_option maxHeartbeats 4000000 in
set_option maxRecDepth 100000 in
/-- Targets.count() -/
theorem k_T_count (l : Launch) (K : zK) (G : Nat → Nat) (A : Nat → Prop) (hD : ∀ σ, va_D A (cW K G σ)) (σ : cS)  : zMet l K A zy_T_count zws_T_count 0 [.ref (G 1)] (cW K G σ) (cW K G σ) (some (.int (nI (cT_opened σ)))) := by
  refine z_entry (by decide) (Nat.le_of_ble_eq_true rfl) ?_
  intro p e s m below meth c ls X hr hml hlocks hP hl
  have hS : va_S A s.heap s.heap [] := va_S.rf
  have hl : lv_has ls 1 [(0, .ref (G 1))] := hl
  refine lv_aload_n X.1 X.2.1 zd_T_count_0 rfl (lv_at hl 0 rfl) ?_
  refine g_cT_opened X hP zd_T_count_1 ?_
  exact z_iret X.1 X.2.1 hr hlocks rfl rfl hP hS zd_T_count_4

set_option maxHeartbeats 4000000 in
set_option maxRecDepth 100000 in
/-- Aspects.count() -/
theorem k_A_count (l : Launch) (K : zK) (G : Nat → Nat) (A : Nat → Prop) (hD : ∀ σ, va_D A (cW K G σ)) (σ : cS)  : zMet l K A zy_A_count zws_A_count 0 [.ref (G 2)] (cW K G σ) (cW K G σ) (some (.int (nI (cA_opened σ)))) := by
  refine z_entry (by decide) (Nat.le_of_ble_eq_true rfl) ?_
  intro p e s m below meth c ls X hr hml hlocks hP hl
  have hS : va_S A s.heap s.heap [] := va_S.rf
  have hl : lv_has ls 1 [(0, .ref (G 2))] := hl
  refine lv_aload_n X.1 X.2.1 zd_A_count_0 rfl (lv_at hl 0 rfl) ?_
  refine g_cA_opened X hP zd_A_count_1 ?_
  exact z_iret X.1 X.2.1 hr hlocks rfl rfl hP hS zd_A_count_4

set_option maxHeartbeats 4000000 in
set_option maxRecDepth 100000 in
/-- Targets.has(x) -/
theorem k_T_has (l : Launch) (K : zK) (G : Nat → Nat) (A : Nat → Prop) (hD : ∀ σ, va_D A (cW K G σ)) (σ : cS) (x : Int32) : zMet l K A zy_T_has zws_T_has 0 [.ref (G 1), .int x] (cW K G σ) (cW K G σ) (some (.int (nI (cHas (cT_opened σ) x)))) := by
  refine z_entry (by decide) (Nat.le_of_ble_eq_true rfl) ?_
  intro p e s m below meth c ls X hr hml hlocks hP hl
  have hS : va_S A s.heap s.heap [] := va_S.rf
  have hl : lv_has ls 2 [(0, .ref (G 1)), (1, .int x)] := hl
  refine lv_iload_n X.1 X.2.1 zd_T_has_0 rfl (lv_at hl 1 rfl) ?_
  refine lv_if_lt (tgt := 16) X.1 X.2.1 zd_T_has_1 (by decide) (fun c1 => ?_) (fun c1 => ?_)
  · refine lv_iconst (v := nI 0) X.1 X.2.1 zd_T_has_16 (by decide) ?_
    exact z_zret X.1 X.2.1 hr hlocks (Or.inl rfl) (by simp [cHas, *]) rfl hP hS zd_T_has_17
  · refine lv_iload_n X.1 X.2.1 zd_T_has_4 rfl (lv_at hl 1 rfl) ?_
    refine lv_aload_n X.1 X.2.1 zd_T_has_5 rfl (lv_at hl 0 rfl) ?_
    refine g_cT_opened X hP zd_T_has_6 ?_
    refine lv_icmp_ge (tgt := 16) X.1 X.2.1 zd_T_has_9 (by decide) (fun c2 => ?_) (fun c2 => ?_)
    · refine lv_iconst (v := nI 0) X.1 X.2.1 zd_T_has_16 (by decide) ?_
      exact z_zret X.1 X.2.1 hr hlocks (Or.inl rfl) (by simp [cHas, *]) rfl hP hS zd_T_has_17
    · refine lv_iconst (v := nI 1) X.1 X.2.1 zd_T_has_12 (by decide) ?_
      refine lv_goto (tgt := 17) X.1 X.2.1 zd_T_has_13 (by decide) ?_
      exact z_zret X.1 X.2.1 hr hlocks (Or.inr rfl) (by simp [cHas, *]) rfl hP hS zd_T_has_17

set_option maxHeartbeats 4000000 in
set_option maxRecDepth 100000 in
/-- Aspects.has(x) -/
theorem k_A_has (l : Launch) (K : zK) (G : Nat → Nat) (A : Nat → Prop) (hD : ∀ σ, va_D A (cW K G σ)) (σ : cS) (x : Int32) : zMet l K A zy_A_has zws_A_has 0 [.ref (G 2), .int x] (cW K G σ) (cW K G σ) (some (.int (nI (cHas (cA_opened σ) x)))) := by
  refine z_entry (by decide) (Nat.le_of_ble_eq_true rfl) ?_
  intro p e s m below meth c ls X hr hml hlocks hP hl
  have hS : va_S A s.heap s.heap [] := va_S.rf
  have hl : lv_has ls 2 [(0, .ref (G 2)), (1, .int x)] := hl
  refine lv_iload_n X.1 X.2.1 zd_A_has_0 rfl (lv_at hl 1 rfl) ?_
  refine lv_if_lt (tgt := 16) X.1 X.2.1 zd_A_has_1 (by decide) (fun c1 => ?_) (fun c1 => ?_)
  · refine lv_iconst (v := nI 0) X.1 X.2.1 zd_A_has_16 (by decide) ?_
    exact z_zret X.1 X.2.1 hr hlocks (Or.inl rfl) (by simp [cHas, *]) rfl hP hS zd_A_has_17
  · refine lv_iload_n X.1 X.2.1 zd_A_has_4 rfl (lv_at hl 1 rfl) ?_
    refine lv_aload_n X.1 X.2.1 zd_A_has_5 rfl (lv_at hl 0 rfl) ?_
    refine g_cA_opened X hP zd_A_has_6 ?_
    refine lv_icmp_ge (tgt := 16) X.1 X.2.1 zd_A_has_9 (by decide) (fun c2 => ?_) (fun c2 => ?_)
    · refine lv_iconst (v := nI 0) X.1 X.2.1 zd_A_has_16 (by decide) ?_
      exact z_zret X.1 X.2.1 hr hlocks (Or.inl rfl) (by simp [cHas, *]) rfl hP hS zd_A_has_17
    · refine lv_iconst (v := nI 1) X.1 X.2.1 zd_A_has_12 (by decide) ?_
      refine lv_goto (tgt := 17) X.1 X.2.1 zd_A_has_13 (by decide) ?_
      exact z_zret X.1 X.2.1 hr hlocks (Or.inr rfl) (by simp [cHas, *]) rfl hP hS zd_A_has_17

set_option maxHeartbeats 4000000 in
set_option maxRecDepth 100000 in
/-- Targets.end(n) -/
theorem k_T_end (l : Launch) (K : zK) (G : Nat → Nat) (A : Nat → Prop) (hD : ∀ σ, va_D A (cW K G σ)) (σ : cS) (n : Nat) (hn : n < 20) : zMet l K A zy_T_end zws_T_end 0 [.ref (G 1), .int (nI n)] (cW K G σ) (cW K G σ) (some (.int (nI (cT_ends σ n)))) := by
  refine z_entry (by decide) (Nat.le_of_ble_eq_true rfl) ?_
  intro p e s m below meth c ls X hr hml hlocks hP hl
  have hS : va_S A s.heap s.heap [] := va_S.rf
  have hl : lv_has ls 2 [(0, .ref (G 1)), (1, .int (nI n))] := hl
  refine lv_aload_n X.1 X.2.1 zd_T_end_0 rfl (lv_at hl 0 rfl) ?_
  refine g_cT_ends X hP zd_T_end_1 ?_
  refine lv_iload_n X.1 X.2.1 zd_T_end_4 rfl (lv_at hl 1 rfl) ?_
  refine l_cT_ends X hP (by omega) zd_T_end_5 ?_
  exact z_iret X.1 X.2.1 hr hlocks rfl rfl hP hS zd_T_end_6

set_option maxHeartbeats 4000000 in
set_option maxRecDepth 100000 in
/-- Targets.isAlias(n) -/
theorem k_T_isAlias (l : Launch) (K : zK) (G : Nat → Nat) (A : Nat → Prop) (hD : ∀ σ, va_D A (cW K G σ)) (σ : cS) (n : Nat) (hn : n < 20) (he : cT_ends σ n < 20) : zMet l K A zy_T_isAlias zws_T_isAlias 0 [.ref (G 1), .int (nI n)] (cW K G σ) (cW K G σ) (some (.int (nI (if cT_ends σ n = n then 0 else 1)))) := by
  refine z_entry (by decide) (Nat.le_of_ble_eq_true rfl) ?_
  intro p e s m below meth c ls X hr hml hlocks hP hl
  have hS : va_S A s.heap s.heap [] := va_S.rf
  have hl : lv_has ls 2 [(0, .ref (G 1)), (1, .int (nI n))] := hl
  refine lv_aload_n X.1 X.2.1 zd_T_isAlias_0 rfl (lv_at hl 0 rfl) ?_
  refine g_cT_ends X hP zd_T_isAlias_1 ?_
  refine lv_iload_n X.1 X.2.1 zd_T_isAlias_4 rfl (lv_at hl 1 rfl) ?_
  refine l_cT_ends X hP (by omega) zd_T_isAlias_5 ?_
  refine lv_iload_n X.1 X.2.1 zd_T_isAlias_6 rfl (lv_at hl 1 rfl) ?_
  refine lv_icmp_eq (tgt := 14) X.1 X.2.1 zd_T_isAlias_7 (by decide) (fun c1 => ?_) (fun c1 => ?_)
  · rw [nI_eq (by omega) (by omega)] at c1
    refine lv_iconst (v := nI 0) X.1 X.2.1 zd_T_isAlias_14 (by decide) ?_
    exact z_zret X.1 X.2.1 hr hlocks (Or.inl rfl) (by simp [*]) rfl hP hS zd_T_isAlias_15
  · rw [nI_eq (by omega) (by omega)] at c1
    refine lv_iconst (v := nI 1) X.1 X.2.1 zd_T_isAlias_10 (by decide) ?_
    refine lv_goto (tgt := 15) X.1 X.2.1 zd_T_isAlias_11 (by decide) ?_
    exact z_zret X.1 X.2.1 hr hlocks (Or.inr rfl) (by simp [*]) rfl hP hS zd_T_isAlias_15

set_option maxHeartbeats 4000000 in
set_option maxRecDepth 100000 in
/-- Targets.leadsTo(n, o) -/
theorem k_T_leadsTo (l : Launch) (K : zK) (G : Nat → Nat) (A : Nat → Prop) (hD : ∀ σ, va_D A (cW K G σ)) (σ : cS) (n o : Nat) (hn : n < 20) : zMet l K A zy_T_leadsTo zws_T_leadsTo 0 [.ref (G 1), .int (nI n), .int (nI o)] (cW K G σ) (cW K G σ) (some (.int (nI (cLead (cT_reached σ n) o)))) := by
  refine z_entry (by decide) (Nat.le_of_ble_eq_true rfl) ?_
  intro p e s m below meth c ls X hr hml hlocks hP hl
  have hS : va_S A s.heap s.heap [] := va_S.rf
  have hl : lv_has ls 3 [(0, .ref (G 1)), (1, .int (nI n)), (2, .int (nI o))] := hl
  refine lv_aload_n X.1 X.2.1 zd_T_leadsTo_0 rfl (lv_at hl 0 rfl) ?_
  refine g_cT_reached X hP zd_T_leadsTo_1 ?_
  refine lv_iload_n X.1 X.2.1 zd_T_leadsTo_4 rfl (lv_at hl 1 rfl) ?_
  refine l_cT_reached X hP (by omega) zd_T_leadsTo_5 ?_
  refine lv_iload_n X.1 X.2.1 zd_T_leadsTo_6 rfl (lv_at hl 2 rfl) ?_
  refine lv_ishr X.1 X.2.1 zd_T_leadsTo_7 ?_
  refine lv_iconst (v := nI 1) X.1 X.2.1 zd_T_leadsTo_8 (by decide) ?_
  refine lv_iand X.1 X.2.1 zd_T_leadsTo_9 ?_
  refine lv_if_eq (tgt := 17) X.1 X.2.1 zd_T_leadsTo_10 (by decide) (fun c1 => ?_) (fun c1 => ?_)
  · refine lv_iconst (v := nI 0) X.1 X.2.1 zd_T_leadsTo_17 (by decide) ?_
    exact z_zret X.1 X.2.1 hr hlocks (Or.inl rfl) (by simp [cLead, *]) rfl hP hS zd_T_leadsTo_18
  · refine lv_iconst (v := nI 1) X.1 X.2.1 zd_T_leadsTo_13 (by decide) ?_
    refine lv_goto (tgt := 18) X.1 X.2.1 zd_T_leadsTo_14 (by decide) ?_
    exact z_zret X.1 X.2.1 hr hlocks (Or.inr rfl) (by simp [cLead, *]) rfl hP hS zd_T_leadsTo_18

set_option maxHeartbeats 4000000 in
set_option maxRecDepth 100000 in
/-- Targets.rowLength(n, a) -/
theorem k_T_rowLength (l : Launch) (K : zK) (G : Nat → Nat) (A : Nat → Prop) (hD : ∀ σ, va_D A (cW K G σ)) (σ : cS) (n a : Nat) (hn : n < 20) (ha : a < 3) : zMet l K A zy_T_rowLength zws_T_rowLength 0 [.ref (G 1), .int (nI n), .int (nI a)] (cW K G σ) (cW K G σ) (some (.int (nI (cT_rowLengths σ (n * 3 + a))))) := by
  refine z_entry (by decide) (Nat.le_of_ble_eq_true rfl) ?_
  intro p e s m below meth c ls X hr hml hlocks hP hl
  have hS : va_S A s.heap s.heap [] := va_S.rf
  have hl : lv_has ls 3 [(0, .ref (G 1)), (1, .int (nI n)), (2, .int (nI a))] := hl
  refine lv_aload_n X.1 X.2.1 zd_T_rowLength_0 rfl (lv_at hl 0 rfl) ?_
  refine g_cT_rowLengths X hP zd_T_rowLength_1 ?_
  refine lv_iload_n X.1 X.2.1 zd_T_rowLength_4 rfl (lv_at hl 1 rfl) ?_
  refine lv_iconst (v := nI 3) X.1 X.2.1 zd_T_rowLength_5 (by decide) ?_
  refine lv_imul X.1 X.2.1 zd_T_rowLength_6 ?_
  refine z_top (pk_mul _ _) ?_
  refine lv_iload_n X.1 X.2.1 zd_T_rowLength_7 rfl (lv_at hl 2 rfl) ?_
  refine lv_iadd X.1 X.2.1 zd_T_rowLength_8 ?_
  refine z_top (nI_add _ _) ?_
  refine l_cT_rowLengths X hP (by omega) zd_T_rowLength_9 ?_
  exact z_iret X.1 X.2.1 hr hlocks rfl rfl hP hS zd_T_rowLength_10

set_option maxHeartbeats 4000000 in
set_option maxRecDepth 100000 in
/-- Targets.rowAt(n, a, i) -/
theorem k_T_rowAt (l : Launch) (K : zK) (G : Nat → Nat) (A : Nat → Prop) (hD : ∀ σ, va_D A (cW K G σ)) (σ : cS) (n a i : Nat) (hn : n < 20) (ha : a < 3) (hi : i < 4) : zMet l K A zy_T_rowAt zws_T_rowAt 0 [.ref (G 1), .int (nI n), .int (nI a), .int (nI i)] (cW K G σ) (cW K G σ) (some (.int (nI (cT_rows σ ((n * 3 + a) * 4 + i))))) := by
  refine z_entry (by decide) (Nat.le_of_ble_eq_true rfl) ?_
  intro p e s m below meth c ls X hr hml hlocks hP hl
  have hS : va_S A s.heap s.heap [] := va_S.rf
  have hl : lv_has ls 4 [(0, .ref (G 1)), (1, .int (nI n)), (2, .int (nI a)), (3, .int (nI i))] := hl
  refine lv_aload_n X.1 X.2.1 zd_T_rowAt_0 rfl (lv_at hl 0 rfl) ?_
  refine g_cT_rows X hP zd_T_rowAt_1 ?_
  refine lv_iload_n X.1 X.2.1 zd_T_rowAt_4 rfl (lv_at hl 1 rfl) ?_
  refine lv_iconst (v := nI 3) X.1 X.2.1 zd_T_rowAt_5 (by decide) ?_
  refine lv_imul X.1 X.2.1 zd_T_rowAt_6 ?_
  refine z_top (pk_mul _ _) ?_
  refine lv_iload_n X.1 X.2.1 zd_T_rowAt_7 rfl (lv_at hl 2 rfl) ?_
  refine lv_iadd X.1 X.2.1 zd_T_rowAt_8 ?_
  refine z_top (nI_add _ _) ?_
  refine lv_iconst (v := nI 4) X.1 X.2.1 zd_T_rowAt_9 (by decide) ?_
  refine lv_imul X.1 X.2.1 zd_T_rowAt_10 ?_
  refine z_top (pk_mul _ _) ?_
  refine lv_iload_n X.1 X.2.1 zd_T_rowAt_11 rfl (lv_at hl 3 rfl) ?_
  refine lv_iadd X.1 X.2.1 zd_T_rowAt_12 ?_
  refine z_top (nI_add _ _) ?_
  refine l_cT_rows X hP (by omega) zd_T_rowAt_13 ?_
  exact z_iret X.1 X.2.1 hr hlocks rfl rfl hP hS zd_T_rowAt_14

set_option maxHeartbeats 4000000 in
set_option maxRecDepth 100000 in
/-- Targets.valueOf(n) -/
theorem k_T_valueOf (l : Launch) (K : zK) (G : Nat → Nat) (A : Nat → Prop) (hD : ∀ σ, va_D A (cW K G σ)) (σ : cS) (n : Nat) (hn : n < 20) : zMet l K A zy_T_valueOf zws_T_valueOf 0 [.ref (G 1), .int (nI n)] (cW K G σ) (cW K G σ) (some (.long (cT_values σ n))) := by
  refine z_entry (by decide) (Nat.le_of_ble_eq_true rfl) ?_
  intro p e s m below meth c ls X hr hml hlocks hP hl
  have hS : va_S A s.heap s.heap [] := va_S.rf
  have hl : lv_has ls 2 [(0, .ref (G 1)), (1, .int (nI n))] := hl
  refine lv_aload_n X.1 X.2.1 zd_T_valueOf_0 rfl (lv_at hl 0 rfl) ?_
  refine g_cT_values X hP zd_T_valueOf_1 ?_
  refine lv_iload_n X.1 X.2.1 zd_T_valueOf_4 rfl (lv_at hl 1 rfl) ?_
  refine l_cT_values X hP (by omega) zd_T_valueOf_5 ?_
  exact z_lret X.1 X.2.1 hr hlocks rfl rfl hP hS zd_T_valueOf_6

set_option maxHeartbeats 4000000 in
set_option maxRecDepth 100000 in
/-- Targets.providersOf(n) -/
theorem k_T_providersOf (l : Launch) (K : zK) (G : Nat → Nat) (A : Nat → Prop) (hD : ∀ σ, va_D A (cW K G σ)) (σ : cS) (n : Nat) (hn : n < 20) : zMet l K A zy_T_providersOf zws_T_providersOf 0 [.ref (G 1), .int (nI n)] (cW K G σ) (cW K G σ) (some (.int (cT_providers σ n))) := by
  refine z_entry (by decide) (Nat.le_of_ble_eq_true rfl) ?_
  intro p e s m below meth c ls X hr hml hlocks hP hl
  have hS : va_S A s.heap s.heap [] := va_S.rf
  have hl : lv_has ls 2 [(0, .ref (G 1)), (1, .int (nI n))] := hl
  refine lv_aload_n X.1 X.2.1 zd_T_providersOf_0 rfl (lv_at hl 0 rfl) ?_
  refine g_cT_providers X hP zd_T_providersOf_1 ?_
  refine lv_iload_n X.1 X.2.1 zd_T_providersOf_4 rfl (lv_at hl 1 rfl) ?_
  refine l_cT_providers X hP (by omega) zd_T_providersOf_5 ?_
  exact z_iret X.1 X.2.1 hr hlocks rfl rfl hP hS zd_T_providersOf_6

set_option maxHeartbeats 4000000 in
set_option maxRecDepth 100000 in
/-- Aspects.leadsTo(n, o) -/
theorem k_A_leadsTo (l : Launch) (K : zK) (G : Nat → Nat) (A : Nat → Prop) (hD : ∀ σ, va_D A (cW K G σ)) (σ : cS) (n o : Nat) (hn : n < 8) : zMet l K A zy_A_leadsTo zws_A_leadsTo 0 [.ref (G 2), .int (nI n), .int (nI o)] (cW K G σ) (cW K G σ) (some (.int (nI (cLead (cA_reached σ n) o)))) := by
  refine z_entry (by decide) (Nat.le_of_ble_eq_true rfl) ?_
  intro p e s m below meth c ls X hr hml hlocks hP hl
  have hS : va_S A s.heap s.heap [] := va_S.rf
  have hl : lv_has ls 3 [(0, .ref (G 2)), (1, .int (nI n)), (2, .int (nI o))] := hl
  refine lv_aload_n X.1 X.2.1 zd_A_leadsTo_0 rfl (lv_at hl 0 rfl) ?_
  refine g_cA_reached X hP zd_A_leadsTo_1 ?_
  refine lv_iload_n X.1 X.2.1 zd_A_leadsTo_4 rfl (lv_at hl 1 rfl) ?_
  refine l_cA_reached X hP (by omega) zd_A_leadsTo_5 ?_
  refine lv_iload_n X.1 X.2.1 zd_A_leadsTo_6 rfl (lv_at hl 2 rfl) ?_
  refine lv_ishr X.1 X.2.1 zd_A_leadsTo_7 ?_
  refine lv_iconst (v := nI 1) X.1 X.2.1 zd_A_leadsTo_8 (by decide) ?_
  refine lv_iand X.1 X.2.1 zd_A_leadsTo_9 ?_
  refine lv_if_eq (tgt := 17) X.1 X.2.1 zd_A_leadsTo_10 (by decide) (fun c1 => ?_) (fun c1 => ?_)
  · refine lv_iconst (v := nI 0) X.1 X.2.1 zd_A_leadsTo_17 (by decide) ?_
    exact z_zret X.1 X.2.1 hr hlocks (Or.inl rfl) (by simp [cLead, *]) rfl hP hS zd_A_leadsTo_18
  · refine lv_iconst (v := nI 1) X.1 X.2.1 zd_A_leadsTo_13 (by decide) ?_
    refine lv_goto (tgt := 18) X.1 X.2.1 zd_A_leadsTo_14 (by decide) ?_
    exact z_zret X.1 X.2.1 hr hlocks (Or.inr rfl) (by simp [cLead, *]) rfl hP hS zd_A_leadsTo_18

set_option maxHeartbeats 4000000 in
set_option maxRecDepth 100000 in
/-- Aspects.needCount(n) -/
theorem k_A_needCount (l : Launch) (K : zK) (G : Nat → Nat) (A : Nat → Prop) (hD : ∀ σ, va_D A (cW K G σ)) (σ : cS) (n : Nat) (hn : n < 8) : zMet l K A zy_A_needCount zws_A_needCount 0 [.ref (G 2), .int (nI n)] (cW K G σ) (cW K G σ) (some (.int (nI (cA_needCounts σ n)))) := by
  refine z_entry (by decide) (Nat.le_of_ble_eq_true rfl) ?_
  intro p e s m below meth c ls X hr hml hlocks hP hl
  have hS : va_S A s.heap s.heap [] := va_S.rf
  have hl : lv_has ls 2 [(0, .ref (G 2)), (1, .int (nI n))] := hl
  refine lv_aload_n X.1 X.2.1 zd_A_needCount_0 rfl (lv_at hl 0 rfl) ?_
  refine g_cA_needCounts X hP zd_A_needCount_1 ?_
  refine lv_iload_n X.1 X.2.1 zd_A_needCount_4 rfl (lv_at hl 1 rfl) ?_
  refine l_cA_needCounts X hP (by omega) zd_A_needCount_5 ?_
  exact z_iret X.1 X.2.1 hr hlocks rfl rfl hP hS zd_A_needCount_6

set_option maxHeartbeats 4000000 in
set_option maxRecDepth 100000 in
/-- Aspects.needAt(n, i) -/
theorem k_A_needAt (l : Launch) (K : zK) (G : Nat → Nat) (A : Nat → Prop) (hD : ∀ σ, va_D A (cW K G σ)) (σ : cS) (n i : Nat) (hn : n < 8) (hi : i < 3) : zMet l K A zy_A_needAt zws_A_needAt 0 [.ref (G 2), .int (nI n), .int (nI i)] (cW K G σ) (cW K G σ) (some (.int (nI (cA_needs σ (n * 3 + i))))) := by
  refine z_entry (by decide) (Nat.le_of_ble_eq_true rfl) ?_
  intro p e s m below meth c ls X hr hml hlocks hP hl
  have hS : va_S A s.heap s.heap [] := va_S.rf
  have hl : lv_has ls 3 [(0, .ref (G 2)), (1, .int (nI n)), (2, .int (nI i))] := hl
  refine lv_aload_n X.1 X.2.1 zd_A_needAt_0 rfl (lv_at hl 0 rfl) ?_
  refine g_cA_needs X hP zd_A_needAt_1 ?_
  refine lv_iload_n X.1 X.2.1 zd_A_needAt_4 rfl (lv_at hl 1 rfl) ?_
  refine lv_iconst (v := nI 3) X.1 X.2.1 zd_A_needAt_5 (by decide) ?_
  refine lv_imul X.1 X.2.1 zd_A_needAt_6 ?_
  refine z_top (pk_mul _ _) ?_
  refine lv_iload_n X.1 X.2.1 zd_A_needAt_7 rfl (lv_at hl 2 rfl) ?_
  refine lv_iadd X.1 X.2.1 zd_A_needAt_8 ?_
  refine z_top (nI_add _ _) ?_
  refine l_cA_needs X hP (by omega) zd_A_needAt_9 ?_
  exact z_iret X.1 X.2.1 hr hlocks rfl rfl hP hS zd_A_needAt_10

set_option maxHeartbeats 4000000 in
set_option maxRecDepth 100000 in
/-- Aspects.goesAlong(n, a) -/
theorem k_A_goesAlong (l : Launch) (K : zK) (G : Nat → Nat) (A : Nat → Prop) (hD : ∀ σ, va_D A (cW K G σ)) (σ : cS) (n a : Nat) (hn : n < 8) : zMet l K A zy_A_goesAlong zws_A_goesAlong 0 [.ref (G 2), .int (nI n), .int (nI a)] (cW K G σ) (cW K G σ) (some (.int (nI (cLead (cA_alongs σ n) a)))) := by
  refine z_entry (by decide) (Nat.le_of_ble_eq_true rfl) ?_
  intro p e s m below meth c ls X hr hml hlocks hP hl
  have hS : va_S A s.heap s.heap [] := va_S.rf
  have hl : lv_has ls 3 [(0, .ref (G 2)), (1, .int (nI n)), (2, .int (nI a))] := hl
  refine lv_aload_n X.1 X.2.1 zd_A_goesAlong_0 rfl (lv_at hl 0 rfl) ?_
  refine g_cA_alongs X hP zd_A_goesAlong_1 ?_
  refine lv_iload_n X.1 X.2.1 zd_A_goesAlong_4 rfl (lv_at hl 1 rfl) ?_
  refine l_cA_alongs X hP (by omega) zd_A_goesAlong_5 ?_
  refine lv_iload_n X.1 X.2.1 zd_A_goesAlong_6 rfl (lv_at hl 2 rfl) ?_
  refine lv_ishr X.1 X.2.1 zd_A_goesAlong_7 ?_
  refine lv_iconst (v := nI 1) X.1 X.2.1 zd_A_goesAlong_8 (by decide) ?_
  refine lv_iand X.1 X.2.1 zd_A_goesAlong_9 ?_
  refine lv_if_eq (tgt := 17) X.1 X.2.1 zd_A_goesAlong_10 (by decide) (fun c1 => ?_) (fun c1 => ?_)
  · refine lv_iconst (v := nI 0) X.1 X.2.1 zd_A_goesAlong_17 (by decide) ?_
    exact z_zret X.1 X.2.1 hr hlocks (Or.inl rfl) (by simp [cLead, *]) rfl hP hS zd_A_goesAlong_18
  · refine lv_iconst (v := nI 1) X.1 X.2.1 zd_A_goesAlong_13 (by decide) ?_
    refine lv_goto (tgt := 18) X.1 X.2.1 zd_A_goesAlong_14 (by decide) ?_
    exact z_zret X.1 X.2.1 hr hlocks (Or.inr rfl) (by simp [cLead, *]) rfl hP hS zd_A_goesAlong_18

set_option maxHeartbeats 4000000 in
set_option maxRecDepth 100000 in
/-- Aspects.kindOf(n) -/
theorem k_A_kindOf (l : Launch) (K : zK) (G : Nat → Nat) (A : Nat → Prop) (hD : ∀ σ, va_D A (cW K G σ)) (σ : cS) (n : Nat) (hn : n < 8) : zMet l K A zy_A_kindOf zws_A_kindOf 0 [.ref (G 2), .int (nI n)] (cW K G σ) (cW K G σ) (some (.int (nI (cA_kinds σ n)))) := by
  refine z_entry (by decide) (Nat.le_of_ble_eq_true rfl) ?_
  intro p e s m below meth c ls X hr hml hlocks hP hl
  have hS : va_S A s.heap s.heap [] := va_S.rf
  have hl : lv_has ls 2 [(0, .ref (G 2)), (1, .int (nI n))] := hl
  refine lv_aload_n X.1 X.2.1 zd_A_kindOf_0 rfl (lv_at hl 0 rfl) ?_
  refine g_cA_kinds X hP zd_A_kindOf_1 ?_
  refine lv_iload_n X.1 X.2.1 zd_A_kindOf_4 rfl (lv_at hl 1 rfl) ?_
  refine l_cA_kinds X hP (by omega) zd_A_kindOf_5 ?_
  exact z_iret X.1 X.2.1 hr hlocks rfl rfl hP hS zd_A_kindOf_6

set_option maxHeartbeats 4000000 in
set_option maxRecDepth 100000 in
/-- Aspects.wantsOf(n) -/
theorem k_A_wantsOf (l : Launch) (K : zK) (G : Nat → Nat) (A : Nat → Prop) (hD : ∀ σ, va_D A (cW K G σ)) (σ : cS) (n : Nat) (hn : n < 8) : zMet l K A zy_A_wantsOf zws_A_wantsOf 0 [.ref (G 2), .int (nI n)] (cW K G σ) (cW K G σ) (some (.int (cA_wants σ n))) := by
  refine z_entry (by decide) (Nat.le_of_ble_eq_true rfl) ?_
  intro p e s m below meth c ls X hr hml hlocks hP hl
  have hS : va_S A s.heap s.heap [] := va_S.rf
  have hl : lv_has ls 2 [(0, .ref (G 2)), (1, .int (nI n))] := hl
  refine lv_aload_n X.1 X.2.1 zd_A_wantsOf_0 rfl (lv_at hl 0 rfl) ?_
  refine g_cA_wants X hP zd_A_wantsOf_1 ?_
  refine lv_iload_n X.1 X.2.1 zd_A_wantsOf_4 rfl (lv_at hl 1 rfl) ?_
  refine l_cA_wants X hP (by omega) zd_A_wantsOf_5 ?_
  exact z_iret X.1 X.2.1 hr hlocks rfl rfl hP hS zd_A_wantsOf_6

set_option maxHeartbeats 4000000 in
set_option maxRecDepth 100000 in
/-- Aspects.givesOf(n) -/
theorem k_A_givesOf (l : Launch) (K : zK) (G : Nat → Nat) (A : Nat → Prop) (hD : ∀ σ, va_D A (cW K G σ)) (σ : cS) (n : Nat) (hn : n < 8) : zMet l K A zy_A_givesOf zws_A_givesOf 0 [.ref (G 2), .int (nI n)] (cW K G σ) (cW K G σ) (some (.int (cA_gives σ n))) := by
  refine z_entry (by decide) (Nat.le_of_ble_eq_true rfl) ?_
  intro p e s m below meth c ls X hr hml hlocks hP hl
  have hS : va_S A s.heap s.heap [] := va_S.rf
  have hl : lv_has ls 2 [(0, .ref (G 2)), (1, .int (nI n))] := hl
  refine lv_aload_n X.1 X.2.1 zd_A_givesOf_0 rfl (lv_at hl 0 rfl) ?_
  refine g_cA_gives X hP zd_A_givesOf_1 ?_
  refine lv_iload_n X.1 X.2.1 zd_A_givesOf_4 rfl (lv_at hl 1 rfl) ?_
  refine l_cA_gives X hP (by omega) zd_A_givesOf_5 ?_
  exact z_iret X.1 X.2.1 hr hlocks rfl rfl hP hS zd_A_givesOf_6

set_option maxHeartbeats 4000000 in
set_option maxRecDepth 100000 in
/-- Aspects.nameOf(n) -/
theorem k_A_nameOf (l : Launch) (K : zK) (G : Nat → Nat) (A : Nat → Prop) (hD : ∀ σ, va_D A (cW K G σ)) (σ : cS) (n : Nat) (hn : n < 8) : zMet l K A zy_A_nameOf zws_A_nameOf 0 [.ref (G 2), .int (nI n)] (cW K G σ) (cW K G σ) (some (.int (cA_names σ n))) := by
  refine z_entry (by decide) (Nat.le_of_ble_eq_true rfl) ?_
  intro p e s m below meth c ls X hr hml hlocks hP hl
  have hS : va_S A s.heap s.heap [] := va_S.rf
  have hl : lv_has ls 2 [(0, .ref (G 2)), (1, .int (nI n))] := hl
  refine lv_aload_n X.1 X.2.1 zd_A_nameOf_0 rfl (lv_at hl 0 rfl) ?_
  refine g_cA_names X hP zd_A_nameOf_1 ?_
  refine lv_iload_n X.1 X.2.1 zd_A_nameOf_4 rfl (lv_at hl 1 rfl) ?_
  refine l_cA_names X hP (by omega) zd_A_nameOf_5 ?_
  exact z_iret X.1 X.2.1 hr hlocks rfl rfl hP hS zd_A_nameOf_6

set_option maxHeartbeats 4000000 in
set_option maxRecDepth 100000 in
/-- Memory.pair(t, a) -/
theorem k_M_pair (l : Launch) (K : zK) (G : Nat → Nat) (A : Nat → Prop) (hD : ∀ σ, va_D A (cW K G σ)) (σ : cS) (t a : Nat) : zMet l K A zy_M_pair zws_M_pair 0 [.int (nI t), .int (nI a)] (cW K G σ) (cW K G σ) (some (.int (nI (t * 8 + a)))) := by
  refine z_entry (by decide) (Nat.le_of_ble_eq_true rfl) ?_
  intro p e s m below meth c ls X hr hml hlocks hP hl
  have hS : va_S A s.heap s.heap [] := va_S.rf
  have hl : lv_has ls 2 [(0, .int (nI t)), (1, .int (nI a))] := hl
  refine lv_iload_n X.1 X.2.1 zd_M_pair_0 rfl (lv_at hl 0 rfl) ?_
  refine lv_bipush (v := nI 8) X.1 X.2.1 zd_M_pair_1 (by decide) ?_
  refine lv_imul X.1 X.2.1 zd_M_pair_3 ?_
  refine z_top (pk_mul _ _) ?_
  refine lv_iload_n X.1 X.2.1 zd_M_pair_4 rfl (lv_at hl 1 rfl) ?_
  refine lv_iadd X.1 X.2.1 zd_M_pair_5 ?_
  refine z_top (nI_add _ _) ?_
  exact z_iret X.1 X.2.1 hr hlocks rfl rfl hP hS zd_M_pair_6

set_option maxHeartbeats 4000000 in
set_option maxRecDepth 100000 in
/-- Memory.known(t, a, k) -/
theorem k_M_known (l : Launch) (K : zK) (G : Nat → Nat) (A : Nat → Prop) (hD : ∀ σ, va_D A (cW K G σ)) (σ : cS) (t a k : Nat) (ht : t < 20) (ha : a < 8) (hk : k < 16) : zMet l K A zy_M_known zws_M_known 1 [.ref (G 3), .int (nI t), .int (nI a), .int (nI k)] (cW K G σ) (cW K G σ) (some (.int (cKnown σ t a k))) := by
  refine z_entry (by decide) (Nat.le_of_ble_eq_true rfl) ?_
  intro p e s m below meth c ls X hr hml hlocks hP hl
  have hS : va_S A s.heap s.heap [] := va_S.rf
  have hl : lv_has ls 5 [(0, .ref (G 3)), (1, .int (nI t)), (2, .int (nI a)), (3, .int (nI k))] := hl
  refine lv_iload_n X.1 X.2.1 zd_M_known_0 rfl (lv_at hl 1 rfl) ?_
  refine lv_iload_n X.1 X.2.1 zd_M_known_1 rfl (lv_at hl 2 rfl) ?_
  refine z_callSi (As := [.int (nI t), .int (nI a)]) (rest := []) X hml (k_M_pair l K G A hD σ t a) (zk_M_37 X.2.2.2.1 (z_rm (by omega) (by decide))) hP hS rfl hl.1 rfl (Nat.le_of_ble_eq_true rfl) zd_M_known_2 ⟨Nat.zero_le _, Nat.zero_le _⟩ (fun H locs hP hS => ?_)
  refine lv_istore (lv' := [(4, .int (nI (t * 8 + a))), (0, .ref (G 3)), (1, .int (nI t)), (2, .int (nI a)), (3, .int (nI k))]) X.1 X.2.1 zd_M_known_5 hl (by decide) rfl (fun ls hl => ?_)
  refine lv_aload_n X.1 X.2.1 zd_M_known_7 rfl (lv_at hl 1 rfl) ?_
  refine g_cM_doneSettings X hP zd_M_known_8 ?_
  refine lv_iload X.1 X.2.1 zd_M_known_11 (lv_at hl 0 rfl) ?_
  refine l_cM_doneSettings X hP (by omega) zd_M_known_13 ?_
  refine lv_iload_n X.1 X.2.1 zd_M_known_14 rfl (lv_at hl 4 rfl) ?_
  refine lv_ishr X.1 X.2.1 zd_M_known_15 ?_
  refine lv_iconst (v := nI 1) X.1 X.2.1 zd_M_known_16 (by decide) ?_
  refine lv_iand X.1 X.2.1 zd_M_known_17 ?_
  refine lv_if_eq (tgt := 23) X.1 X.2.1 zd_M_known_18 (by decide) (fun c1 => ?_) (fun c1 => ?_)
  · refine lv_aload_n X.1 X.2.1 zd_M_known_23 rfl (lv_at hl 1 rfl) ?_
    refine g_cM_passedSettings X hP zd_M_known_24 ?_
    refine lv_iload X.1 X.2.1 zd_M_known_27 (lv_at hl 0 rfl) ?_
    refine l_cM_passedSettings X hP (by omega) zd_M_known_29 ?_
    refine lv_iload_n X.1 X.2.1 zd_M_known_30 rfl (lv_at hl 4 rfl) ?_
    refine lv_ishr X.1 X.2.1 zd_M_known_31 ?_
    refine lv_iconst (v := nI 1) X.1 X.2.1 zd_M_known_32 (by decide) ?_
    refine lv_iand X.1 X.2.1 zd_M_known_33 ?_
    refine lv_if_eq (tgt := 41) X.1 X.2.1 zd_M_known_34 (by decide) (fun c2 => ?_) (fun c2 => ?_)
    · refine lv_iconst (v := -1) X.1 X.2.1 zd_M_known_41 (by decide) ?_
      exact z_iret X.1 X.2.1 hr hlocks (by simp [cKnown, *]) rfl hP hS zd_M_known_42
    · refine lv_iconst (v := nI 0) X.1 X.2.1 zd_M_known_37 (by decide) ?_
      refine lv_goto (tgt := 42) X.1 X.2.1 zd_M_known_38 (by decide) ?_
      exact z_iret X.1 X.2.1 hr hlocks (by simp [cKnown, *]) rfl hP hS zd_M_known_42
  · refine lv_iconst (v := nI 1) X.1 X.2.1 zd_M_known_21 (by decide) ?_
    exact z_iret X.1 X.2.1 hr hlocks (by simp [cKnown, *]) rfl hP hS zd_M_known_22

set_option maxHeartbeats 4000000 in
set_option maxRecDepth 100000 in
/-- Memory.resultOf(t, a, k) -/
theorem k_M_resultOf (l : Launch) (K : zK) (G : Nat → Nat) (A : Nat → Prop) (hD : ∀ σ, va_D A (cW K G σ)) (σ : cS) (t a k : Nat) (ht : t < 20) (ha : a < 8) (hk : k < 16) : zMet l K A zy_M_resultOf zws_M_resultOf 1 [.ref (G 3), .int (nI t), .int (nI a), .int (nI k)] (cW K G σ) (cW K G σ) (some (.long (cM_results σ ((t * 8 + a) * 16 + k)))) := by
  refine z_entry (by decide) (Nat.le_of_ble_eq_true rfl) ?_
  intro p e s m below meth c ls X hr hml hlocks hP hl
  have hS : va_S A s.heap s.heap [] := va_S.rf
  have hl : lv_has ls 4 [(0, .ref (G 3)), (1, .int (nI t)), (2, .int (nI a)), (3, .int (nI k))] := hl
  refine lv_aload_n X.1 X.2.1 zd_M_resultOf_0 rfl (lv_at hl 0 rfl) ?_
  refine g_cM_results X hP zd_M_resultOf_1 ?_
  refine lv_iload_n X.1 X.2.1 zd_M_resultOf_4 rfl (lv_at hl 1 rfl) ?_
  refine lv_iload_n X.1 X.2.1 zd_M_resultOf_5 rfl (lv_at hl 2 rfl) ?_
  refine z_callSi (As := [.int (nI t), .int (nI a)]) (rest := [.ref (G 22)]) X hml (k_M_pair l K G A hD σ t a) (zk_M_37 X.2.2.2.1 (z_rm (by omega) (by decide))) hP hS rfl hl.1 rfl (Nat.le_of_ble_eq_true rfl) zd_M_resultOf_6 ⟨Nat.zero_le _, Nat.zero_le _⟩ (fun H locs hP hS => ?_)
  refine lv_bipush (v := nI 16) X.1 X.2.1 zd_M_resultOf_9 (by decide) ?_
  refine lv_imul X.1 X.2.1 zd_M_resultOf_11 ?_
  refine z_top (pk_mul _ _) ?_
  refine lv_iload_n X.1 X.2.1 zd_M_resultOf_12 rfl (lv_at hl 3 rfl) ?_
  refine lv_iadd X.1 X.2.1 zd_M_resultOf_13 ?_
  refine z_top (nI_add _ _) ?_
  refine l_cM_results X hP (by omega) zd_M_resultOf_14 ?_
  exact z_lret X.1 X.2.1 hr hlocks rfl rfl hP hS zd_M_resultOf_15

set_option maxHeartbeats 4000000 in
set_option maxRecDepth 100000 in
/-- Memory.timesDone(t, a) -/
theorem k_M_timesDone (l : Launch) (K : zK) (G : Nat → Nat) (A : Nat → Prop) (hD : ∀ σ, va_D A (cW K G σ)) (σ : cS) (t a : Nat) (ht : t < 20) (ha : a < 8) : zMet l K A zy_M_timesDone zws_M_timesDone 1 [.ref (G 3), .int (nI t), .int (nI a)] (cW K G σ) (cW K G σ) (some (.int (cM_doneTimes σ (t * 8 + a)))) := by
  refine z_entry (by decide) (Nat.le_of_ble_eq_true rfl) ?_
  intro p e s m below meth c ls X hr hml hlocks hP hl
  have hS : va_S A s.heap s.heap [] := va_S.rf
  have hl : lv_has ls 3 [(0, .ref (G 3)), (1, .int (nI t)), (2, .int (nI a))] := hl
  refine lv_aload_n X.1 X.2.1 zd_M_timesDone_0 rfl (lv_at hl 0 rfl) ?_
  refine g_cM_doneTimes X hP zd_M_timesDone_1 ?_
  refine lv_iload_n X.1 X.2.1 zd_M_timesDone_4 rfl (lv_at hl 1 rfl) ?_
  refine lv_iload_n X.1 X.2.1 zd_M_timesDone_5 rfl (lv_at hl 2 rfl) ?_
  refine z_callSi (As := [.int (nI t), .int (nI a)]) (rest := [.ref (G 21)]) X hml (k_M_pair l K G A hD σ t a) (zk_M_37 X.2.2.2.1 (z_rm (by omega) (by decide))) hP hS rfl hl.1 rfl (Nat.le_of_ble_eq_true rfl) zd_M_timesDone_6 ⟨Nat.zero_le _, Nat.zero_le _⟩ (fun H locs hP hS => ?_)
  refine l_cM_doneTimes X hP (by omega) zd_M_timesDone_9 ?_
  exact z_iret X.1 X.2.1 hr hlocks rfl rfl hP hS zd_M_timesDone_10

set_option maxHeartbeats 4000000 in
set_option maxRecDepth 100000 in
/-- Memory.doneCount() -/
theorem k_M_doneCount (l : Launch) (K : zK) (G : Nat → Nat) (A : Nat → Prop) (hD : ∀ σ, va_D A (cW K G σ)) (σ : cS)  : zMet l K A zy_M_doneCount zws_M_doneCount 0 [.ref (G 3)] (cW K G σ) (cW K G σ) (some (.int (cM_nowDone σ))) := by
  refine z_entry (by decide) (Nat.le_of_ble_eq_true rfl) ?_
  intro p e s m below meth c ls X hr hml hlocks hP hl
  have hS : va_S A s.heap s.heap [] := va_S.rf
  have hl : lv_has ls 1 [(0, .ref (G 3))] := hl
  refine lv_aload_n X.1 X.2.1 zd_M_doneCount_0 rfl (lv_at hl 0 rfl) ?_
  refine g_cM_nowDone X hP zd_M_doneCount_1 ?_
  exact z_iret X.1 X.2.1 hr hlocks rfl rfl hP hS zd_M_doneCount_4

set_option maxHeartbeats 4000000 in
set_option maxRecDepth 100000 in
/-- Memory.makerOf(t, n) -/
theorem k_M_makerOf (l : Launch) (K : zK) (G : Nat → Nat) (A : Nat → Prop) (hD : ∀ σ, va_D A (cW K G σ)) (σ : cS) (t n : Nat) (ht : t < 20) (hn : n < 10) : zMet l K A zy_M_makerOf zws_M_makerOf 0 [.ref (G 3), .int (nI t), .int (nI n)] (cW K G σ) (cW K G σ) (some (.int (cM_makers σ (t * 10 + n)))) := by
  refine z_entry (by decide) (Nat.le_of_ble_eq_true rfl) ?_
  intro p e s m below meth c ls X hr hml hlocks hP hl
  have hS : va_S A s.heap s.heap [] := va_S.rf
  have hl : lv_has ls 3 [(0, .ref (G 3)), (1, .int (nI t)), (2, .int (nI n))] := hl
  refine lv_aload_n X.1 X.2.1 zd_M_makerOf_0 rfl (lv_at hl 0 rfl) ?_
  refine g_cM_makers X hP zd_M_makerOf_1 ?_
  refine lv_iload_n X.1 X.2.1 zd_M_makerOf_4 rfl (lv_at hl 1 rfl) ?_
  refine lv_bipush (v := nI 10) X.1 X.2.1 zd_M_makerOf_5 (by decide) ?_
  refine lv_imul X.1 X.2.1 zd_M_makerOf_7 ?_
  refine z_top (pk_mul _ _) ?_
  refine lv_iload_n X.1 X.2.1 zd_M_makerOf_8 rfl (lv_at hl 2 rfl) ?_
  refine lv_iadd X.1 X.2.1 zd_M_makerOf_9 ?_
  refine z_top (nI_add _ _) ?_
  refine l_cM_makers X hP (by omega) zd_M_makerOf_10 ?_
  exact z_iret X.1 X.2.1 hr hlocks rfl rfl hP hS zd_M_makerOf_11

set_option maxHeartbeats 4000000 in
set_option maxRecDepth 100000 in
/-- Memory.makerSettingOf(t, n) -/
theorem k_M_makerSettingOf (l : Launch) (K : zK) (G : Nat → Nat) (A : Nat → Prop) (hD : ∀ σ, va_D A (cW K G σ)) (σ : cS) (t n : Nat) (ht : t < 20) (hn : n < 10) : zMet l K A zy_M_makerSettingOf zws_M_makerSettingOf 0 [.ref (G 3), .int (nI t), .int (nI n)] (cW K G σ) (cW K G σ) (some (.int (nI (cM_makerSettings σ (t * 10 + n))))) := by
  refine z_entry (by decide) (Nat.le_of_ble_eq_true rfl) ?_
  intro p e s m below meth c ls X hr hml hlocks hP hl
  have hS : va_S A s.heap s.heap [] := va_S.rf
  have hl : lv_has ls 3 [(0, .ref (G 3)), (1, .int (nI t)), (2, .int (nI n))] := hl
  refine lv_aload_n X.1 X.2.1 zd_M_makerSettingOf_0 rfl (lv_at hl 0 rfl) ?_
  refine g_cM_makerSettings X hP zd_M_makerSettingOf_1 ?_
  refine lv_iload_n X.1 X.2.1 zd_M_makerSettingOf_4 rfl (lv_at hl 1 rfl) ?_
  refine lv_bipush (v := nI 10) X.1 X.2.1 zd_M_makerSettingOf_5 (by decide) ?_
  refine lv_imul X.1 X.2.1 zd_M_makerSettingOf_7 ?_
  refine z_top (pk_mul _ _) ?_
  refine lv_iload_n X.1 X.2.1 zd_M_makerSettingOf_8 rfl (lv_at hl 2 rfl) ?_
  refine lv_iadd X.1 X.2.1 zd_M_makerSettingOf_9 ?_
  refine z_top (nI_add _ _) ?_
  refine l_cM_makerSettings X hP (by omega) zd_M_makerSettingOf_10 ?_
  exact z_iret X.1 X.2.1 hr hlocks rfl rfl hP hS zd_M_makerSettingOf_11

def cKeepPassed (σ : cS) (t a k : Nat) : cS := p_cM_passedSettings σ (upd (cM_passedSettings σ) (t * 8 + a) (cM_passedSettings σ (t * 8 + a) ||| (nI 1 <<< (nI k &&& 31))))
def cKeepDone (σ : cS) (t a k : Nat) (v : Int64) : cS := p_cM_nowDone (p_cM_results (p_cM_doneTimes (p_cM_doneSettings σ (upd (cM_doneSettings σ) (t * 8 + a) (cM_doneSettings σ (t * 8 + a) ||| (nI 1 <<< (nI k &&& 31))))) (upd (cM_doneTimes σ) (t * 8 + a) (cM_doneTimes σ (t * 8 + a) + nI 1))) (vp_updL (cM_results σ) ((t * 8 + a) * 16 + k) v)) (cM_nowDone σ + nI 1)
def cKeepMaker (σ : cS) (t n : Nat) (a : Nat) (k : Nat) : cS := p_cM_makerSettings (p_cM_makers σ (upd (cM_makers σ) (t * 10 + n) (nI a))) (upN (cM_makerSettings σ) (t * 10 + n) k)

set_option maxHeartbeats 4000000 in
set_option maxRecDepth 100000 in
/-- Memory.keepPassed(t, a, k) -/
theorem k_M_keepPassed (l : Launch) (K : zK) (G : Nat → Nat) (A : Nat → Prop) (hD : ∀ σ, va_D A (cW K G σ)) (σ : cS) (t a k : Nat) (ht : t < 20) (ha : a < 8) (hk : k < 16) : zMet l K A zy_M_keepPassed zws_M_keepPassed 1 [.ref (G 3), .int (nI t), .int (nI a), .int (nI k)] (cW K G σ) (cW K G (cKeepPassed σ t a k)) none := by
  refine z_entry (by decide) (Nat.le_of_ble_eq_true rfl) ?_
  intro p e s m below meth c ls X hr hml hlocks hP hl
  have hS : va_S A s.heap s.heap [] := va_S.rf
  have hl : lv_has ls 4 [(0, .ref (G 3)), (1, .int (nI t)), (2, .int (nI a)), (3, .int (nI k))] := hl
  refine lv_aload_n X.1 X.2.1 zd_M_keepPassed_0 rfl (lv_at hl 0 rfl) ?_
  refine g_cM_passedSettings X hP zd_M_keepPassed_1 ?_
  refine lv_iload_n X.1 X.2.1 zd_M_keepPassed_4 rfl (lv_at hl 1 rfl) ?_
  refine lv_iload_n X.1 X.2.1 zd_M_keepPassed_5 rfl (lv_at hl 2 rfl) ?_
  refine z_callSi (As := [.int (nI t), .int (nI a)]) (rest := [.ref (G 20)]) X hml (k_M_pair l K G A hD σ t a) (zk_M_37 X.2.2.2.1 (z_rm (by omega) (by decide))) hP hS rfl hl.1 rfl (Nat.le_of_ble_eq_true rfl) zd_M_keepPassed_6 ⟨Nat.zero_le _, Nat.zero_le _⟩ (fun H locs hP hS => ?_)
  refine lv_dup2_11 X.1 X.2.1 zd_M_keepPassed_9 rfl rfl ?_
  refine l_cM_passedSettings X hP (by omega) zd_M_keepPassed_10 ?_
  refine lv_iconst (v := nI 1) X.1 X.2.1 zd_M_keepPassed_11 (by decide) ?_
  refine lv_iload_n X.1 X.2.1 zd_M_keepPassed_12 rfl (lv_at hl 3 rfl) ?_
  refine lv_ishl X.1 X.2.1 zd_M_keepPassed_13 ?_
  refine lv_ior X.1 X.2.1 zd_M_keepPassed_14 ?_
  refine s_cM_passedSettings X hD hP hS (by omega) zd_M_keepPassed_15 (fun H locs hP hS => ?_)
  have hP : va_P K.1 zcl (cW K G (p_cM_passedSettings σ (upd (cM_passedSettings σ) (t * 8 + a) ((cM_passedSettings σ (t * 8 + a)) ||| ((nI 1) <<< ((nI k) &&& 31)))))) H := hP
  exact z_vret X.1 X.2.1 hr hlocks rfl hP hS zd_M_keepPassed_16

set_option maxHeartbeats 4000000 in
set_option maxRecDepth 100000 in
/-- Memory.keepDone(t, a, k, v) -/
theorem k_M_keepDone (l : Launch) (K : zK) (G : Nat → Nat) (A : Nat → Prop) (hD : ∀ σ, va_D A (cW K G σ)) (σ : cS) (t a k : Nat) (v : Int64) (ht : t < 20) (ha : a < 8) (hk : k < 16) : zMet l K A zy_M_keepDone zws_M_keepDone 1 [.ref (G 3), .int (nI t), .int (nI a), .int (nI k), .long v] (cW K G σ) (cW K G (cKeepDone σ t a k v)) none := by
  refine z_entry (by decide) (Nat.le_of_ble_eq_true rfl) ?_
  intro p e s m below meth c ls X hr hml hlocks hP hl
  have hS : va_S A s.heap s.heap [] := va_S.rf
  have hl : lv_has ls 7 [(0, .ref (G 3)), (1, .int (nI t)), (2, .int (nI a)), (3, .int (nI k)), (4, .long v)] := hl
  refine lv_iload_n X.1 X.2.1 zd_M_keepDone_0 rfl (lv_at hl 1 rfl) ?_
  refine lv_iload_n X.1 X.2.1 zd_M_keepDone_1 rfl (lv_at hl 2 rfl) ?_
  refine z_callSi (As := [.int (nI t), .int (nI a)]) (rest := []) X hml (k_M_pair l K G A hD σ t a) (zk_M_37 X.2.2.2.1 (z_rm (by omega) (by decide))) hP hS rfl hl.1 rfl (Nat.le_of_ble_eq_true rfl) zd_M_keepDone_2 ⟨Nat.zero_le _, Nat.zero_le _⟩ (fun H locs hP hS => ?_)
  refine lv_istore (lv' := [(6, .int (nI (t * 8 + a))), (0, .ref (G 3)), (1, .int (nI t)), (2, .int (nI a)), (3, .int (nI k)), (4, .long v)]) X.1 X.2.1 zd_M_keepDone_5 hl (by decide) rfl (fun ls hl => ?_)
  refine lv_aload_n X.1 X.2.1 zd_M_keepDone_7 rfl (lv_at hl 1 rfl) ?_
  refine g_cM_doneSettings X hP zd_M_keepDone_8 ?_
  refine lv_iload X.1 X.2.1 zd_M_keepDone_11 (lv_at hl 0 rfl) ?_
  refine lv_dup2_11 X.1 X.2.1 zd_M_keepDone_13 rfl rfl ?_
  refine l_cM_doneSettings X hP (by omega) zd_M_keepDone_14 ?_
  refine lv_iconst (v := nI 1) X.1 X.2.1 zd_M_keepDone_15 (by decide) ?_
  refine lv_iload_n X.1 X.2.1 zd_M_keepDone_16 rfl (lv_at hl 4 rfl) ?_
  refine lv_ishl X.1 X.2.1 zd_M_keepDone_17 ?_
  refine lv_ior X.1 X.2.1 zd_M_keepDone_18 ?_
  refine s_cM_doneSettings X hD hP hS (by omega) zd_M_keepDone_19 (fun H locs hP hS => ?_)
  have hP : va_P K.1 zcl (cW K G (p_cM_doneSettings σ (upd (cM_doneSettings σ) (t * 8 + a) ((cM_doneSettings σ (t * 8 + a)) ||| ((nI 1) <<< ((nI k) &&& 31)))))) H := hP
  refine lv_aload_n X.1 X.2.1 zd_M_keepDone_20 rfl (lv_at hl 1 rfl) ?_
  refine g_cM_doneTimes X hP zd_M_keepDone_21 ?_
  refine lv_iload X.1 X.2.1 zd_M_keepDone_24 (lv_at hl 0 rfl) ?_
  refine lv_dup2_11 X.1 X.2.1 zd_M_keepDone_26 rfl rfl ?_
  refine l_cM_doneTimes X hP (by omega) zd_M_keepDone_27 ?_
  refine z_top (y := (cM_doneTimes σ (t * 8 + a))) rfl ?_
  refine lv_iconst (v := nI 1) X.1 X.2.1 zd_M_keepDone_28 (by decide) ?_
  refine lv_iadd X.1 X.2.1 zd_M_keepDone_29 ?_
  refine s_cM_doneTimes X hD hP hS (by omega) zd_M_keepDone_30 (fun H locs hP hS => ?_)
  have hP : va_P K.1 zcl (cW K G (p_cM_doneTimes (p_cM_doneSettings σ (upd (cM_doneSettings σ) (t * 8 + a) ((cM_doneSettings σ (t * 8 + a)) ||| ((nI 1) <<< ((nI k) &&& 31))))) (upd (cM_doneTimes σ) (t * 8 + a) ((cM_doneTimes σ (t * 8 + a)) + (nI 1))))) H := hP
  refine lv_aload_n X.1 X.2.1 zd_M_keepDone_31 rfl (lv_at hl 1 rfl) ?_
  refine g_cM_results X hP zd_M_keepDone_32 ?_
  refine lv_iload X.1 X.2.1 zd_M_keepDone_35 (lv_at hl 0 rfl) ?_
  refine lv_bipush (v := nI 16) X.1 X.2.1 zd_M_keepDone_37 (by decide) ?_
  refine lv_imul X.1 X.2.1 zd_M_keepDone_39 ?_
  refine z_top (pk_mul _ _) ?_
  refine lv_iload_n X.1 X.2.1 zd_M_keepDone_40 rfl (lv_at hl 4 rfl) ?_
  refine lv_iadd X.1 X.2.1 zd_M_keepDone_41 ?_
  refine z_top (nI_add _ _) ?_
  refine lv_lload X.1 X.2.1 zd_M_keepDone_42 (lv_at hl 5 rfl) ?_
  refine s_cM_results X hD hP hS (by omega) zd_M_keepDone_44 (fun H locs hP hS => ?_)
  have hP : va_P K.1 zcl (cW K G (p_cM_results (p_cM_doneTimes (p_cM_doneSettings σ (upd (cM_doneSettings σ) (t * 8 + a) ((cM_doneSettings σ (t * 8 + a)) ||| ((nI 1) <<< ((nI k) &&& 31))))) (upd (cM_doneTimes σ) (t * 8 + a) ((cM_doneTimes σ (t * 8 + a)) + (nI 1)))) (vp_updL (cM_results σ) (((t * 8 + a) * 16) + k) v))) H := hP
  refine lv_aload_n X.1 X.2.1 zd_M_keepDone_45 rfl (lv_at hl 1 rfl) ?_
  refine lv_dup X.1 X.2.1 zd_M_keepDone_46 rfl ?_
  refine g_cM_nowDone X hP zd_M_keepDone_47 ?_
  refine z_top (y := (cM_nowDone σ)) rfl ?_
  refine lv_iconst (v := nI 1) X.1 X.2.1 zd_M_keepDone_50 (by decide) ?_
  refine lv_iadd X.1 X.2.1 zd_M_keepDone_51 ?_
  refine s_cM_nowDone X hD hP hS zd_M_keepDone_52 (fun H locs hP hS => ?_)
  have hP : va_P K.1 zcl (cW K G (p_cM_nowDone (p_cM_results (p_cM_doneTimes (p_cM_doneSettings σ (upd (cM_doneSettings σ) (t * 8 + a) ((cM_doneSettings σ (t * 8 + a)) ||| ((nI 1) <<< ((nI k) &&& 31))))) (upd (cM_doneTimes σ) (t * 8 + a) ((cM_doneTimes σ (t * 8 + a)) + (nI 1)))) (vp_updL (cM_results σ) (((t * 8 + a) * 16) + k) v)) ((cM_nowDone σ) + (nI 1)))) H := hP
  exact z_vret X.1 X.2.1 hr hlocks rfl hP hS zd_M_keepDone_55

set_option maxHeartbeats 4000000 in
set_option maxRecDepth 100000 in
/-- Memory.keepMaker(t, n, a, k) -/
theorem k_M_keepMaker (l : Launch) (K : zK) (G : Nat → Nat) (A : Nat → Prop) (hD : ∀ σ, va_D A (cW K G σ)) (σ : cS) (t n a k : Nat) (ht : t < 20) (hn : n < 10) : zMet l K A zy_M_keepMaker zws_M_keepMaker 0 [.ref (G 3), .int (nI t), .int (nI n), .int (nI a), .int (nI k)] (cW K G σ) (cW K G (cKeepMaker σ t n a k)) none := by
  refine z_entry (by decide) (Nat.le_of_ble_eq_true rfl) ?_
  intro p e s m below meth c ls X hr hml hlocks hP hl
  have hS : va_S A s.heap s.heap [] := va_S.rf
  have hl : lv_has ls 5 [(0, .ref (G 3)), (1, .int (nI t)), (2, .int (nI n)), (3, .int (nI a)), (4, .int (nI k))] := hl
  refine lv_aload_n X.1 X.2.1 zd_M_keepMaker_0 rfl (lv_at hl 0 rfl) ?_
  refine g_cM_makers X hP zd_M_keepMaker_1 ?_
  refine lv_iload_n X.1 X.2.1 zd_M_keepMaker_4 rfl (lv_at hl 1 rfl) ?_
  refine lv_bipush (v := nI 10) X.1 X.2.1 zd_M_keepMaker_5 (by decide) ?_
  refine lv_imul X.1 X.2.1 zd_M_keepMaker_7 ?_
  refine z_top (pk_mul _ _) ?_
  refine lv_iload_n X.1 X.2.1 zd_M_keepMaker_8 rfl (lv_at hl 2 rfl) ?_
  refine lv_iadd X.1 X.2.1 zd_M_keepMaker_9 ?_
  refine z_top (nI_add _ _) ?_
  refine lv_iload_n X.1 X.2.1 zd_M_keepMaker_10 rfl (lv_at hl 3 rfl) ?_
  refine s_cM_makers X hD hP hS (by omega) zd_M_keepMaker_11 (fun H locs hP hS => ?_)
  have hP : va_P K.1 zcl (cW K G (p_cM_makers σ (upd (cM_makers σ) ((t * 10) + n) (nI a)))) H := hP
  refine lv_aload_n X.1 X.2.1 zd_M_keepMaker_12 rfl (lv_at hl 0 rfl) ?_
  refine g_cM_makerSettings X hP zd_M_keepMaker_13 ?_
  refine lv_iload_n X.1 X.2.1 zd_M_keepMaker_16 rfl (lv_at hl 1 rfl) ?_
  refine lv_bipush (v := nI 10) X.1 X.2.1 zd_M_keepMaker_17 (by decide) ?_
  refine lv_imul X.1 X.2.1 zd_M_keepMaker_19 ?_
  refine z_top (pk_mul _ _) ?_
  refine lv_iload_n X.1 X.2.1 zd_M_keepMaker_20 rfl (lv_at hl 2 rfl) ?_
  refine lv_iadd X.1 X.2.1 zd_M_keepMaker_21 ?_
  refine z_top (nI_add _ _) ?_
  refine lv_iload X.1 X.2.1 zd_M_keepMaker_22 (lv_at hl 4 rfl) ?_
  refine s_cM_makerSettings X hD hP hS (by omega) zd_M_keepMaker_24 (fun H locs hP hS => ?_)
  have hP : va_P K.1 zcl (cW K G (p_cM_makerSettings (p_cM_makers σ (upd (cM_makers σ) ((t * 10) + n) (nI a))) (upN (cM_makerSettings σ) ((t * 10) + n) k))) H := hP
  exact z_vret X.1 X.2.1 hr hlocks rfl hP hS zd_M_keepMaker_25
end
section
/-! contracts of Targets' and Aspects' writes (by program: wip/gen/twrites.py) -/
def cOpenT (σ : cS) (v : Int64) (g : Int32) : cS := p_cT_opened (p_cT_reached (p_cT_ends (p_cT_providers (p_cT_values σ (vp_updL (cT_values σ) (cT_opened σ) v)) (upd (cT_providers σ) (cT_opened σ) g)) (upN (cT_ends σ) (cT_opened σ) (cT_opened σ))) (upd (cT_reached σ) (cT_opened σ) (nI 1 <<< (nI (cT_opened σ) &&& 31)))) (cT_opened σ + 1)
def cOpenAlias (σ : cS) (o : Nat) : cS := p_cT_opened (p_cT_ends σ (upN (cT_ends σ) (cT_opened σ) (cT_ends σ o))) (cT_opened σ + 1)
def cAssign (σ : cS) (n : Nat) (v : Int64) (g : Int32) : cS := p_cT_providers (p_cT_values σ (vp_updL (cT_values σ) n v)) (upd (cT_providers σ) n g)
def cDiffers (σ : cS) (n : Nat) (v : Int64) (g : Int32) : Nat := if cT_values σ n = v ∧ cT_providers σ n = g then 0 else 1
/-- what reaches n reaches what o reaches: one step after another -/
def cReachL (σ : cS) (n o : Nat) : Nat → cS
  | 0 => σ
  | i + 1 => if cLead (cT_reached (cReachL σ n o i) i) n = 0 then cReachL σ n o i else p_cT_reached (cReachL σ n o i) (upd (cT_reached (cReachL σ n o i)) i (cT_reached (cReachL σ n o i) i ||| cT_reached (cReachL σ n o i) o))
theorem cReachL_opened (σ : cS) (n o i : Nat) : cT_opened (cReachL σ n o i) = cT_opened σ := by
  induction i with
  | zero => rfl
  | succ i ih =>
    unfold cReachL
    split
    · exact ih
    · exact ih
def cAppend0 (σ : cS) (n a o : Nat) : cS := p_cT_rowLengths (p_cT_rows σ (upN (cT_rows σ) ((n * 3 + a) * 4 + cT_rowLengths σ (n * 3 + a)) o)) (upN (cT_rowLengths σ) (n * 3 + a) (cT_rowLengths σ (n * 3 + a) + 1))
def cAppend (σ : cS) (n a o : Nat) : cS := cReachL (cAppend0 σ n a o) n o (cT_opened σ)
def cOpenA (σ : cS) (k : Nat) (al w g nm : Int32) : cS := p_cA_opened (p_cA_reached (p_cA_names (p_cA_gives (p_cA_wants (p_cA_alongs (p_cA_kinds σ (upN (cA_kinds σ) (cA_opened σ) k)) (upd (cA_alongs σ) (cA_opened σ) al)) (upd (cA_wants σ) (cA_opened σ) w)) (upd (cA_gives σ) (cA_opened σ) g)) (upd (cA_names σ) (cA_opened σ) nm)) (upd (cA_reached σ) (cA_opened σ) (nI 1 <<< (nI (cA_opened σ) &&& 31)))) (cA_opened σ + 1)
/-- whether one of the first j needs of n is o -/
def cDirect (σ : cS) (n o : Nat) : Nat → Bool
  | 0 => false
  | j + 1 => cDirect σ n o j || decide (cA_needs σ (n * 3 + j) = o)
def cReachA (σ : cS) (n o : Nat) : Nat → cS
  | 0 => σ
  | i + 1 => if cLead (cA_reached (cReachA σ n o i) i) n = 0 then cReachA σ n o i else p_cA_reached (cReachA σ n o i) (upd (cA_reached (cReachA σ n o i)) i (cA_reached (cReachA σ n o i) i ||| cA_reached (cReachA σ n o i) o))
theorem cReachA_opened (σ : cS) (n o i : Nat) : cA_opened (cReachA σ n o i) = cA_opened σ := by
  induction i with
  | zero => rfl
  | succ i ih =>
    unfold cReachA
    split
    · exact ih
    · exact ih
def cAppendNeed0 (σ : cS) (n o : Nat) : cS := p_cA_needCounts (p_cA_needs σ (upN (cA_needs σ) (n * 3 + cA_needCounts σ n) o)) (upN (cA_needCounts σ) n (cA_needCounts σ n + 1))
def cAppendNeed (σ : cS) (n o : Nat) : cS := cReachA (cAppendNeed0 σ n o) n o (cA_opened σ)

set_option maxHeartbeats 4000000 in
set_option maxRecDepth 100000 in
/-- Targets.open: a new one -/
theorem k_T_open_1 (l : Launch) (K : zK) (G : Nat → Nat) (A : Nat → Prop) (hD : ∀ σ, va_D A (cW K G σ)) (σ : cS) (v : Int64) (g : Int32) (ho : cT_opened σ < 20) : zMet l K A zy_T_open zws_T_open 0 [.ref (G 1), .long v, .int g] (cW K G σ) (cW K G (cOpenT σ v g)) (some (.int (nI (cT_opened σ)))) := by
  refine z_entry (by decide) (Nat.le_of_ble_eq_true rfl) ?_
  intro p e s m below meth c ls X hr hml hlocks hP hl
  have hS : va_S A s.heap s.heap [] := va_S.rf
  have hl : lv_has ls 5 [(0, .ref (G 1)), (1, .long v), (3, .int g)] := hl
  refine lv_aload_n X.1 X.2.1 zd_T_open_0 rfl (lv_at hl 0 rfl) ?_
  refine g_cT_opened X hP zd_T_open_1 ?_
  refine lv_bipush (v := nI 20) X.1 X.2.1 zd_T_open_4 (by decide) ?_
  refine lv_icmp_lt (tgt := 11) X.1 X.2.1 zd_T_open_6 (by decide) (fun _ => ?_) (fun h9 => absurd (by rw [nI_ltI (by omega) (by omega)]; omega) h9)
  refine lv_aload_n X.1 X.2.1 zd_T_open_11 rfl (lv_at hl 0 rfl) ?_
  refine g_cT_opened X hP zd_T_open_12 ?_
  refine lv_istore (lv' := [(4, .int (nI (cT_opened σ))), (0, .ref (G 1)), (1, .long v), (3, .int g)]) X.1 X.2.1 zd_T_open_15 hl (by decide) rfl (fun ls hl => ?_)
  refine lv_aload_n X.1 X.2.1 zd_T_open_17 rfl (lv_at hl 1 rfl) ?_
  refine g_cT_values X hP zd_T_open_18 ?_
  refine lv_iload X.1 X.2.1 zd_T_open_21 (lv_at hl 0 rfl) ?_
  refine lv_lload_n X.1 X.2.1 zd_T_open_23 rfl (lv_at hl 2 rfl) ?_
  refine s_cT_values X hD hP hS (by omega) zd_T_open_24 (fun H locs hP hS => ?_)
  have hP : va_P K.1 zcl (cW K G (p_cT_values σ (vp_updL (cT_values σ) (cT_opened σ) v))) H := hP
  refine lv_aload_n X.1 X.2.1 zd_T_open_25 rfl (lv_at hl 1 rfl) ?_
  refine g_cT_providers X hP zd_T_open_26 ?_
  refine lv_iload X.1 X.2.1 zd_T_open_29 (lv_at hl 0 rfl) ?_
  refine lv_iload_n X.1 X.2.1 zd_T_open_31 rfl (lv_at hl 3 rfl) ?_
  refine s_cT_providers X hD hP hS (by omega) zd_T_open_32 (fun H locs hP hS => ?_)
  have hP : va_P K.1 zcl (cW K G (p_cT_providers (p_cT_values σ (vp_updL (cT_values σ) (cT_opened σ) v)) (upd (cT_providers σ) (cT_opened σ) g))) H := hP
  refine lv_aload_n X.1 X.2.1 zd_T_open_33 rfl (lv_at hl 1 rfl) ?_
  refine g_cT_ends X hP zd_T_open_34 ?_
  refine lv_iload X.1 X.2.1 zd_T_open_37 (lv_at hl 0 rfl) ?_
  refine lv_iload X.1 X.2.1 zd_T_open_39 (lv_at hl 0 rfl) ?_
  refine s_cT_ends X hD hP hS (by omega) zd_T_open_41 (fun H locs hP hS => ?_)
  have hP : va_P K.1 zcl (cW K G (p_cT_ends (p_cT_providers (p_cT_values σ (vp_updL (cT_values σ) (cT_opened σ) v)) (upd (cT_providers σ) (cT_opened σ) g)) (upN (cT_ends σ) (cT_opened σ) (cT_opened σ)))) H := hP
  refine lv_aload_n X.1 X.2.1 zd_T_open_42 rfl (lv_at hl 1 rfl) ?_
  refine g_cT_reached X hP zd_T_open_43 ?_
  refine lv_iload X.1 X.2.1 zd_T_open_46 (lv_at hl 0 rfl) ?_
  refine lv_iconst (v := nI 1) X.1 X.2.1 zd_T_open_48 (by decide) ?_
  refine lv_iload X.1 X.2.1 zd_T_open_49 (lv_at hl 0 rfl) ?_
  refine lv_ishl X.1 X.2.1 zd_T_open_51 ?_
  refine s_cT_reached X hD hP hS (by omega) zd_T_open_52 (fun H locs hP hS => ?_)
  have hP : va_P K.1 zcl (cW K G (p_cT_reached (p_cT_ends (p_cT_providers (p_cT_values σ (vp_updL (cT_values σ) (cT_opened σ) v)) (upd (cT_providers σ) (cT_opened σ) g)) (upN (cT_ends σ) (cT_opened σ) (cT_opened σ))) (upd (cT_reached σ) (cT_opened σ) ((nI 1) <<< ((nI (cT_opened σ)) &&& 31))))) H := hP
  refine lv_aload_n X.1 X.2.1 zd_T_open_53 rfl (lv_at hl 1 rfl) ?_
  refine lv_dup X.1 X.2.1 zd_T_open_54 rfl ?_
  refine g_cT_opened X hP zd_T_open_55 ?_
  refine z_top (y := (nI (cT_opened σ))) rfl ?_
  refine lv_iconst (v := nI 1) X.1 X.2.1 zd_T_open_58 (by decide) ?_
  refine lv_iadd X.1 X.2.1 zd_T_open_59 ?_
  refine z_top (nI_add _ _) ?_
  refine s_cT_opened X hD hP hS zd_T_open_60 (fun H locs hP hS => ?_)
  have hP : va_P K.1 zcl (cW K G (p_cT_opened (p_cT_reached (p_cT_ends (p_cT_providers (p_cT_values σ (vp_updL (cT_values σ) (cT_opened σ) v)) (upd (cT_providers σ) (cT_opened σ) g)) (upN (cT_ends σ) (cT_opened σ) (cT_opened σ))) (upd (cT_reached σ) (cT_opened σ) ((nI 1) <<< ((nI (cT_opened σ)) &&& 31)))) ((cT_opened σ) + 1))) H := hP
  refine lv_iload X.1 X.2.1 zd_T_open_63 (lv_at hl 0 rfl) ?_
  exact z_iret X.1 X.2.1 hr hlocks rfl rfl hP hS zd_T_open_65

set_option maxHeartbeats 4000000 in
set_option maxRecDepth 100000 in
/-- Targets.open: full -/
theorem k_T_open_0 (l : Launch) (K : zK) (G : Nat → Nat) (A : Nat → Prop) (hD : ∀ σ, va_D A (cW K G σ)) (σ : cS) (v : Int64) (g : Int32) (ho : cT_opened σ = 20) : zMet l K A zy_T_open zws_T_open 0 [.ref (G 1), .long v, .int g] (cW K G σ) (cW K G σ) (some (.int (-1))) := by
  refine z_entry (by decide) (Nat.le_of_ble_eq_true rfl) ?_
  intro p e s m below meth c ls X hr hml hlocks hP hl
  have hS : va_S A s.heap s.heap [] := va_S.rf
  have hl : lv_has ls 5 [(0, .ref (G 1)), (1, .long v), (3, .int g)] := hl
  refine lv_aload_n X.1 X.2.1 zd_T_open_0 rfl (lv_at hl 0 rfl) ?_
  refine g_cT_opened X hP zd_T_open_1 ?_
  refine lv_bipush (v := nI 20) X.1 X.2.1 zd_T_open_4 (by decide) ?_
  refine lv_icmp_lt (tgt := 11) X.1 X.2.1 zd_T_open_6 (by decide) (fun h9 => absurd h9 (by rw [nI_ltI (by omega) (by omega)]; omega)) (fun _ => ?_)
  refine lv_iconst (v := -1) X.1 X.2.1 zd_T_open_9 (by decide) ?_
  exact z_iret X.1 X.2.1 hr hlocks rfl rfl hP hS zd_T_open_10

set_option maxHeartbeats 4000000 in
set_option maxRecDepth 100000 in
/-- Targets.openAlias: a new one -/
theorem k_T_openAlias_1 (l : Launch) (K : zK) (G : Nat → Nat) (A : Nat → Prop) (hD : ∀ σ, va_D A (cW K G σ)) (σ : cS) (o : Nat) (hoo : o < 20) (ho : cT_opened σ < 20) : zMet l K A zy_T_openAlias zws_T_openAlias 0 [.ref (G 1), .int (nI o)] (cW K G σ) (cW K G (cOpenAlias σ o)) (some (.int (nI (cT_opened σ)))) := by
  refine z_entry (by decide) (Nat.le_of_ble_eq_true rfl) ?_
  intro p e s m below meth c ls X hr hml hlocks hP hl
  have hS : va_S A s.heap s.heap [] := va_S.rf
  have hl : lv_has ls 3 [(0, .ref (G 1)), (1, .int (nI o))] := hl
  refine lv_aload_n X.1 X.2.1 zd_T_openAlias_0 rfl (lv_at hl 0 rfl) ?_
  refine g_cT_opened X hP zd_T_openAlias_1 ?_
  refine lv_bipush (v := nI 20) X.1 X.2.1 zd_T_openAlias_4 (by decide) ?_
  refine lv_icmp_lt (tgt := 11) X.1 X.2.1 zd_T_openAlias_6 (by decide) (fun _ => ?_) (fun h9 => absurd (by rw [nI_ltI (by omega) (by omega)]; omega) h9)
  refine lv_aload_n X.1 X.2.1 zd_T_openAlias_11 rfl (lv_at hl 0 rfl) ?_
  refine g_cT_opened X hP zd_T_openAlias_12 ?_
  refine lv_istore_n (lv' := [(2, .int (nI (cT_opened σ))), (0, .ref (G 1)), (1, .int (nI o))]) X.1 X.2.1 zd_T_openAlias_15 rfl hl (by decide) rfl (fun ls hl => ?_)
  refine lv_aload_n X.1 X.2.1 zd_T_openAlias_16 rfl (lv_at hl 1 rfl) ?_
  refine g_cT_ends X hP zd_T_openAlias_17 ?_
  refine lv_iload_n X.1 X.2.1 zd_T_openAlias_20 rfl (lv_at hl 0 rfl) ?_
  refine lv_aload_n X.1 X.2.1 zd_T_openAlias_21 rfl (lv_at hl 1 rfl) ?_
  refine g_cT_ends X hP zd_T_openAlias_22 ?_
  refine lv_iload_n X.1 X.2.1 zd_T_openAlias_25 rfl (lv_at hl 2 rfl) ?_
  refine l_cT_ends X hP (by omega) zd_T_openAlias_26 ?_
  refine s_cT_ends X hD hP hS (by omega) zd_T_openAlias_27 (fun H locs hP hS => ?_)
  have hP : va_P K.1 zcl (cW K G (p_cT_ends σ (upN (cT_ends σ) (cT_opened σ) (cT_ends σ o)))) H := hP
  refine lv_aload_n X.1 X.2.1 zd_T_openAlias_28 rfl (lv_at hl 1 rfl) ?_
  refine lv_dup X.1 X.2.1 zd_T_openAlias_29 rfl ?_
  refine g_cT_opened X hP zd_T_openAlias_30 ?_
  refine z_top (y := (nI (cT_opened σ))) rfl ?_
  refine lv_iconst (v := nI 1) X.1 X.2.1 zd_T_openAlias_33 (by decide) ?_
  refine lv_iadd X.1 X.2.1 zd_T_openAlias_34 ?_
  refine z_top (nI_add _ _) ?_
  refine s_cT_opened X hD hP hS zd_T_openAlias_35 (fun H locs hP hS => ?_)
  have hP : va_P K.1 zcl (cW K G (p_cT_opened (p_cT_ends σ (upN (cT_ends σ) (cT_opened σ) (cT_ends σ o))) ((cT_opened σ) + 1))) H := hP
  refine lv_iload_n X.1 X.2.1 zd_T_openAlias_38 rfl (lv_at hl 0 rfl) ?_
  exact z_iret X.1 X.2.1 hr hlocks rfl rfl hP hS zd_T_openAlias_39

set_option maxHeartbeats 4000000 in
set_option maxRecDepth 100000 in
/-- Targets.openAlias: full -/
theorem k_T_openAlias_0 (l : Launch) (K : zK) (G : Nat → Nat) (A : Nat → Prop) (hD : ∀ σ, va_D A (cW K G σ)) (σ : cS) (o : Nat) (ho : cT_opened σ = 20) : zMet l K A zy_T_openAlias zws_T_openAlias 0 [.ref (G 1), .int (nI o)] (cW K G σ) (cW K G σ) (some (.int (-1))) := by
  refine z_entry (by decide) (Nat.le_of_ble_eq_true rfl) ?_
  intro p e s m below meth c ls X hr hml hlocks hP hl
  have hS : va_S A s.heap s.heap [] := va_S.rf
  have hl : lv_has ls 3 [(0, .ref (G 1)), (1, .int (nI o))] := hl
  refine lv_aload_n X.1 X.2.1 zd_T_openAlias_0 rfl (lv_at hl 0 rfl) ?_
  refine g_cT_opened X hP zd_T_openAlias_1 ?_
  refine lv_bipush (v := nI 20) X.1 X.2.1 zd_T_openAlias_4 (by decide) ?_
  refine lv_icmp_lt (tgt := 11) X.1 X.2.1 zd_T_openAlias_6 (by decide) (fun h9 => absurd h9 (by rw [nI_ltI (by omega) (by omega)]; omega)) (fun _ => ?_)
  refine lv_iconst (v := -1) X.1 X.2.1 zd_T_openAlias_9 (by decide) ?_
  exact z_iret X.1 X.2.1 hr hlocks rfl rfl hP hS zd_T_openAlias_10

set_option maxHeartbeats 4000000 in
set_option maxRecDepth 100000 in
/-- Targets.assign(n, v, g) -/
theorem k_T_assign (l : Launch) (K : zK) (G : Nat → Nat) (A : Nat → Prop) (hD : ∀ σ, va_D A (cW K G σ)) (σ : cS) (n : Nat) (v : Int64) (g : Int32) (hn : n < 20) : zMet l K A zy_T_assign zws_T_assign 0 [.ref (G 1), .int (nI n), .long v, .int g] (cW K G σ) (cW K G (cAssign σ n v g)) (some (.int (nI (cDiffers σ n v g)))) := by
  refine z_entry (by decide) (Nat.le_of_ble_eq_true rfl) ?_
  intro p e s m below meth c ls X hr hml hlocks hP hl
  have hS : va_S A s.heap s.heap [] := va_S.rf
  have hl : lv_has ls 6 [(0, .ref (G 1)), (1, .int (nI n)), (2, .long v), (4, .int g)] := hl
  refine lv_aload_n X.1 X.2.1 zd_T_assign_0 rfl (lv_at hl 0 rfl) ?_
  refine g_cT_values X hP zd_T_assign_1 ?_
  refine lv_iload_n X.1 X.2.1 zd_T_assign_4 rfl (lv_at hl 1 rfl) ?_
  refine l_cT_values X hP (by omega) zd_T_assign_5 ?_
  refine lv_lload_n X.1 X.2.1 zd_T_assign_6 rfl (lv_at hl 2 rfl) ?_
  refine W.lcmp X.1 X.2.1 zd_T_assign_7 ?_
  refine lv_if_ne (tgt := 22) X.1 X.2.1 zd_T_assign_8 (by decide) (fun c1 => ?_) (fun c1 => ?_)
  · refine lv_iconst (v := nI 1) X.1 X.2.1 zd_T_assign_22 (by decide) ?_
    refine lv_goto (tgt := 27) X.1 X.2.1 zd_T_assign_23 (by decide) ?_
    refine lv_istore (lv' := [(5, .int (nI 1)), (0, .ref (G 1)), (1, .int (nI n)), (2, .long v), (4, .int g)]) X.1 X.2.1 zd_T_assign_27 hl (by decide) rfl (fun ls hl => ?_)
    refine lv_aload_n X.1 X.2.1 zd_T_assign_29 rfl (lv_at hl 1 rfl) ?_
    refine g_cT_values X hP zd_T_assign_30 ?_
    refine lv_iload_n X.1 X.2.1 zd_T_assign_33 rfl (lv_at hl 2 rfl) ?_
    refine lv_lload_n X.1 X.2.1 zd_T_assign_34 rfl (lv_at hl 3 rfl) ?_
    refine s_cT_values X hD hP hS (by omega) zd_T_assign_35 (fun H locs hP hS => ?_)
    have hP : va_P K.1 zcl (cW K G (p_cT_values σ (vp_updL (cT_values σ) n v))) H := hP
    refine lv_aload_n X.1 X.2.1 zd_T_assign_36 rfl (lv_at hl 1 rfl) ?_
    refine g_cT_providers X hP zd_T_assign_37 ?_
    refine lv_iload_n X.1 X.2.1 zd_T_assign_40 rfl (lv_at hl 2 rfl) ?_
    refine lv_iload X.1 X.2.1 zd_T_assign_41 (lv_at hl 4 rfl) ?_
    refine s_cT_providers X hD hP hS (by omega) zd_T_assign_43 (fun H locs hP hS => ?_)
    have hP : va_P K.1 zcl (cW K G (p_cT_providers (p_cT_values σ (vp_updL (cT_values σ) n v)) (upd (cT_providers σ) n g))) H := hP
    refine lv_iload X.1 X.2.1 zd_T_assign_44 (lv_at hl 0 rfl) ?_
    exact z_zret X.1 X.2.1 hr hlocks (Or.inr rfl) (by simp only [cDiffers, lg_cmp_eq] at *; simp [*]) rfl hP hS zd_T_assign_46
  · refine lv_aload_n X.1 X.2.1 zd_T_assign_11 rfl (lv_at hl 0 rfl) ?_
    refine g_cT_providers X hP zd_T_assign_12 ?_
    refine lv_iload_n X.1 X.2.1 zd_T_assign_15 rfl (lv_at hl 1 rfl) ?_
    refine l_cT_providers X hP (by omega) zd_T_assign_16 ?_
    refine lv_iload X.1 X.2.1 zd_T_assign_17 (lv_at hl 3 rfl) ?_
    refine lv_icmp_eq (tgt := 26) X.1 X.2.1 zd_T_assign_19 (by decide) (fun c2 => ?_) (fun c2 => ?_)
    · refine lv_iconst (v := nI 0) X.1 X.2.1 zd_T_assign_26 (by decide) ?_
      refine lv_istore (lv' := [(5, .int (nI 0)), (0, .ref (G 1)), (1, .int (nI n)), (2, .long v), (4, .int g)]) X.1 X.2.1 zd_T_assign_27 hl (by decide) rfl (fun ls hl => ?_)
      refine lv_aload_n X.1 X.2.1 zd_T_assign_29 rfl (lv_at hl 1 rfl) ?_
      refine g_cT_values X hP zd_T_assign_30 ?_
      refine lv_iload_n X.1 X.2.1 zd_T_assign_33 rfl (lv_at hl 2 rfl) ?_
      refine lv_lload_n X.1 X.2.1 zd_T_assign_34 rfl (lv_at hl 3 rfl) ?_
      refine s_cT_values X hD hP hS (by omega) zd_T_assign_35 (fun H locs hP hS => ?_)
      have hP : va_P K.1 zcl (cW K G (p_cT_values σ (vp_updL (cT_values σ) n v))) H := hP
      refine lv_aload_n X.1 X.2.1 zd_T_assign_36 rfl (lv_at hl 1 rfl) ?_
      refine g_cT_providers X hP zd_T_assign_37 ?_
      refine lv_iload_n X.1 X.2.1 zd_T_assign_40 rfl (lv_at hl 2 rfl) ?_
      refine lv_iload X.1 X.2.1 zd_T_assign_41 (lv_at hl 4 rfl) ?_
      refine s_cT_providers X hD hP hS (by omega) zd_T_assign_43 (fun H locs hP hS => ?_)
      have hP : va_P K.1 zcl (cW K G (p_cT_providers (p_cT_values σ (vp_updL (cT_values σ) n v)) (upd (cT_providers σ) n g))) H := hP
      refine lv_iload X.1 X.2.1 zd_T_assign_44 (lv_at hl 0 rfl) ?_
      exact z_zret X.1 X.2.1 hr hlocks (Or.inl rfl) (by simp only [cDiffers, lg_cmp_eq] at *; simp [*]) rfl hP hS zd_T_assign_46
    · refine lv_iconst (v := nI 1) X.1 X.2.1 zd_T_assign_22 (by decide) ?_
      refine lv_goto (tgt := 27) X.1 X.2.1 zd_T_assign_23 (by decide) ?_
      refine lv_istore (lv' := [(5, .int (nI 1)), (0, .ref (G 1)), (1, .int (nI n)), (2, .long v), (4, .int g)]) X.1 X.2.1 zd_T_assign_27 hl (by decide) rfl (fun ls hl => ?_)
      refine lv_aload_n X.1 X.2.1 zd_T_assign_29 rfl (lv_at hl 1 rfl) ?_
      refine g_cT_values X hP zd_T_assign_30 ?_
      refine lv_iload_n X.1 X.2.1 zd_T_assign_33 rfl (lv_at hl 2 rfl) ?_
      refine lv_lload_n X.1 X.2.1 zd_T_assign_34 rfl (lv_at hl 3 rfl) ?_
      refine s_cT_values X hD hP hS (by omega) zd_T_assign_35 (fun H locs hP hS => ?_)
      have hP : va_P K.1 zcl (cW K G (p_cT_values σ (vp_updL (cT_values σ) n v))) H := hP
      refine lv_aload_n X.1 X.2.1 zd_T_assign_36 rfl (lv_at hl 1 rfl) ?_
      refine g_cT_providers X hP zd_T_assign_37 ?_
      refine lv_iload_n X.1 X.2.1 zd_T_assign_40 rfl (lv_at hl 2 rfl) ?_
      refine lv_iload X.1 X.2.1 zd_T_assign_41 (lv_at hl 4 rfl) ?_
      refine s_cT_providers X hD hP hS (by omega) zd_T_assign_43 (fun H locs hP hS => ?_)
      have hP : va_P K.1 zcl (cW K G (p_cT_providers (p_cT_values σ (vp_updL (cT_values σ) n v)) (upd (cT_providers σ) n g))) H := hP
      refine lv_iload X.1 X.2.1 zd_T_assign_44 (lv_at hl 0 rfl) ?_
      exact z_zret X.1 X.2.1 hr hlocks (Or.inr rfl) (by simp only [cDiffers, lg_cmp_eq] at *; simp [*]) rfl hP hS zd_T_assign_46

set_option maxHeartbeats 4000000 in
set_option maxRecDepth 100000 in
/-- append's loop -/
theorem q_T_append {p : Program} {e : Env} {s : State} {m : MethodId} {args : Array Value} {below : List Frame} {meth : Method} {c : Code} (l : Launch) (K : zK) (G : Nat → Nat) (A : Nat → Prop) (hD : ∀ σ, va_D A (cW K G σ)) (X : zFx K zR_T zb_T_append p s m args c) (hr : meth.sig.returnType = (some .boolean)) (hml : c.maxLocals = 7) (hlocks : meth.locks = false) (σ : cS) (n a o x4 x5 : Nat) (hn : n < 20) (ho : o < 20) (hN0 : cT_opened σ ≤ 20) : ∀ (j i : Nat), i + j = cT_opened σ → ∀ (τ : cS), τ = cReachL σ n o i → ∀ (H : Heap) (locs : List Loc) (ls : Array Slot), va_P K.1 zcl (cW K G τ) H → va_S A s.heap H locs → lv_has ls 7 [(6, .int (nI i)), (5, .int (nI x5)), (4, .int (nI x4)), (0, .ref (G 1)), (1, .int (nI n)), (2, .int (nI a)), (3, .int (nI o))] → W p l e (zrm 1) s m args below meth c H locs 0 0 (MQ below (zPost K A (cW K G (cReachL σ n o (cT_opened σ))) (some (.int (nI 1)))) args s 0 0 A) (F0 m 51 ls []) := by
  intro j
  induction j with
  | zero =>
    intro i hi τ hτ H locs ls hP hS hl
    have hN : cT_opened τ = cT_opened σ := by rw [hτ]; exact cReachL_opened σ n o i
    refine lv_iload X.1 X.2.1 zd_T_append_51 (lv_at hl 0 rfl) ?_
    refine lv_aload_n X.1 X.2.1 zd_T_append_53 rfl (lv_at hl 3 rfl) ?_
    refine g_cT_opened X hP zd_T_append_54 ?_
    refine z_top (congrArg nI hN) ?_
    refine lv_icmp_ge (tgt := 92) X.1 X.2.1 zd_T_append_57 (by decide) (fun _ => ?_) (fun h9 => absurd (by rw [nI_leI (by omega) (by omega)]; omega) h9)
    refine lv_iconst (v := nI 1) X.1 X.2.1 zd_T_append_92 (by decide) ?_
    exact z_zret X.1 X.2.1 hr hlocks (Or.inr rfl) rfl (by subst hτ; rw [show i = cT_opened σ by omega]) hP hS zd_T_append_93
  | succ j ih =>
    intro i hi τ hτ H locs ls hP hS hl
    have hN : cT_opened τ = cT_opened σ := by rw [hτ]; exact cReachL_opened σ n o i
    refine lv_iload X.1 X.2.1 zd_T_append_51 (lv_at hl 0 rfl) ?_
    refine lv_aload_n X.1 X.2.1 zd_T_append_53 rfl (lv_at hl 3 rfl) ?_
    refine g_cT_opened X hP zd_T_append_54 ?_
    refine z_top (congrArg nI hN) ?_
    refine lv_icmp_ge (tgt := 92) X.1 X.2.1 zd_T_append_57 (by decide) (fun h9 => absurd h9 (by rw [nI_leI (by omega) (by omega)]; omega)) (fun _ => ?_)
    refine lv_aload_n X.1 X.2.1 zd_T_append_60 rfl (lv_at hl 3 rfl) ?_
    refine lv_iload X.1 X.2.1 zd_T_append_61 (lv_at hl 0 rfl) ?_
    refine lv_iload_n X.1 X.2.1 zd_T_append_63 rfl (lv_at hl 4 rfl) ?_
    refine z_callVi (As := [.int (nI i), .int (nI n)]) (rest := []) (q0 := 1) (ci := 0) X hml (k_T_leadsTo l K G A hD τ i n (by omega)) (zk_T_35 X.2.2.2.1 (z_rm (by omega) (by decide))) rfl rfl rfl hP hS rfl hl.1 rfl (Nat.le_of_ble_eq_true rfl) zd_T_append_64 ⟨Nat.zero_le _, Nat.zero_le _⟩ (fun H locs hP hS => ?_)
    refine lv_if_eq (tgt := 86) X.1 X.2.1 zd_T_append_67 (by decide) (fun c1 => ?_) (fun c1 => ?_)
    · rw [z_eq0 (cLead_lt _ _)] at c1
      refine lv_iinc (v := nI (i + 1)) (lv' := [(6, .int (nI (i + 1))), (5, .int (nI x5)), (4, .int (nI x4)), (0, .ref (G 1)), (1, .int (nI n)), (2, .int (nI a)), (3, .int (nI o))]) X.1 X.2.1 zd_T_append_86 hl (k := 0) rfl (nI_1 _) (by decide) rfl (fun ls hl => ?_)
      refine lv_goto (tgt := 51) X.1 X.2.1 zd_T_append_89 (by decide) ?_
      exact ih (i + 1) (by omega) _ (by subst hτ; rw [cReachL]; simp [*]) H locs ls hP hS (lv_sub hl [0, 1, 2, 3, 4, 5, 6] rfl)
    · rw [z_eq0 (cLead_lt _ _)] at c1
      refine lv_aload_n X.1 X.2.1 zd_T_append_70 rfl (lv_at hl 3 rfl) ?_
      refine g_cT_reached X hP zd_T_append_71 ?_
      refine lv_iload X.1 X.2.1 zd_T_append_74 (lv_at hl 0 rfl) ?_
      refine lv_dup2_11 X.1 X.2.1 zd_T_append_76 rfl rfl ?_
      refine l_cT_reached X hP (by omega) zd_T_append_77 ?_
      refine lv_aload_n X.1 X.2.1 zd_T_append_78 rfl (lv_at hl 3 rfl) ?_
      refine g_cT_reached X hP zd_T_append_79 ?_
      refine lv_iload_n X.1 X.2.1 zd_T_append_82 rfl (lv_at hl 6 rfl) ?_
      refine l_cT_reached X hP (by omega) zd_T_append_83 ?_
      refine lv_ior X.1 X.2.1 zd_T_append_84 ?_
      refine s_cT_reached X hD hP hS (by omega) zd_T_append_85 (fun H locs hP hS => ?_)
      have hP : va_P K.1 zcl (cW K G (p_cT_reached τ (upd (cT_reached τ) i ((cT_reached τ i) ||| (cT_reached τ o))))) H := hP
      refine lv_iinc (v := nI (i + 1)) (lv' := [(6, .int (nI (i + 1))), (5, .int (nI x5)), (4, .int (nI x4)), (0, .ref (G 1)), (1, .int (nI n)), (2, .int (nI a)), (3, .int (nI o))]) X.1 X.2.1 zd_T_append_86 hl (k := 0) rfl (nI_1 _) (by decide) rfl (fun ls hl => ?_)
      refine lv_goto (tgt := 51) X.1 X.2.1 zd_T_append_89 (by decide) ?_
      exact ih (i + 1) (by omega) _ (by subst hτ; rw [cReachL]; simp [*]) H locs ls hP hS (lv_sub hl [0, 1, 2, 3, 4, 5, 6] rfl)

set_option maxHeartbeats 4000000 in
set_option maxRecDepth 100000 in
/-- Targets.append: there is room -/
theorem k_T_append_1 (l : Launch) (K : zK) (G : Nat → Nat) (A : Nat → Prop) (hD : ∀ σ, va_D A (cW K G σ)) (σ : cS) (n a o : Nat) (hn : n < 20) (ha : a < 3) (ho : o < 20) (hN0 : cT_opened σ ≤ 20) (hl4 : cT_rowLengths σ (n * 3 + a) < 4) : zMet l K A zy_T_append zws_T_append 1 [.ref (G 1), .int (nI n), .int (nI a), .int (nI o)] (cW K G σ) (cW K G (cAppend σ n a o)) (some (.int (nI 1))) := by
  refine z_entry (by decide) (Nat.le_of_ble_eq_true rfl) ?_
  intro p e s m below meth c ls X hr hml hlocks hP hl
  have hS : va_S A s.heap s.heap [] := va_S.rf
  have hl : lv_has ls 7 [(0, .ref (G 1)), (1, .int (nI n)), (2, .int (nI a)), (3, .int (nI o))] := hl
  refine lv_iload_n X.1 X.2.1 zd_T_append_0 rfl (lv_at hl 1 rfl) ?_
  refine lv_iconst (v := nI 3) X.1 X.2.1 zd_T_append_1 (by decide) ?_
  refine lv_imul X.1 X.2.1 zd_T_append_2 ?_
  refine z_top (pk_mul _ _) ?_
  refine lv_iload_n X.1 X.2.1 zd_T_append_3 rfl (lv_at hl 2 rfl) ?_
  refine lv_iadd X.1 X.2.1 zd_T_append_4 ?_
  refine z_top (nI_add _ _) ?_
  refine lv_istore (lv' := [(4, .int (nI ((n * 3) + a))), (0, .ref (G 1)), (1, .int (nI n)), (2, .int (nI a)), (3, .int (nI o))]) X.1 X.2.1 zd_T_append_5 hl (by decide) rfl (fun ls hl => ?_)
  refine lv_aload_n X.1 X.2.1 zd_T_append_7 rfl (lv_at hl 1 rfl) ?_
  refine g_cT_rowLengths X hP zd_T_append_8 ?_
  refine lv_iload X.1 X.2.1 zd_T_append_11 (lv_at hl 0 rfl) ?_
  refine l_cT_rowLengths X hP (by omega) zd_T_append_13 ?_
  refine lv_istore (lv' := [(5, .int (nI (cT_rowLengths σ ((n * 3) + a)))), (4, .int (nI ((n * 3) + a))), (0, .ref (G 1)), (1, .int (nI n)), (2, .int (nI a)), (3, .int (nI o))]) X.1 X.2.1 zd_T_append_14 hl (by decide) rfl (fun ls hl => ?_)
  refine lv_iload X.1 X.2.1 zd_T_append_16 (lv_at hl 0 rfl) ?_
  refine lv_iconst (v := nI 4) X.1 X.2.1 zd_T_append_18 (by decide) ?_
  refine lv_icmp_lt (tgt := 24) X.1 X.2.1 zd_T_append_19 (by decide) (fun _ => ?_) (fun h9 => absurd (by rw [nI_ltI (by omega) (by omega)]; omega) h9)
  refine lv_aload_n X.1 X.2.1 zd_T_append_24 rfl (lv_at hl 2 rfl) ?_
  refine g_cT_rows X hP zd_T_append_25 ?_
  refine lv_iload X.1 X.2.1 zd_T_append_28 (lv_at hl 1 rfl) ?_
  refine lv_iconst (v := nI 4) X.1 X.2.1 zd_T_append_30 (by decide) ?_
  refine lv_imul X.1 X.2.1 zd_T_append_31 ?_
  refine z_top (pk_mul _ _) ?_
  refine lv_iload X.1 X.2.1 zd_T_append_32 (lv_at hl 0 rfl) ?_
  refine lv_iadd X.1 X.2.1 zd_T_append_34 ?_
  refine z_top (nI_add _ _) ?_
  refine lv_iload_n X.1 X.2.1 zd_T_append_35 rfl (lv_at hl 5 rfl) ?_
  refine s_cT_rows X hD hP hS (by omega) zd_T_append_36 (fun H locs hP hS => ?_)
  have hP : va_P K.1 zcl (cW K G (p_cT_rows σ (upN (cT_rows σ) ((((n * 3) + a) * 4) + (cT_rowLengths σ ((n * 3) + a))) o))) H := hP
  refine lv_aload_n X.1 X.2.1 zd_T_append_37 rfl (lv_at hl 2 rfl) ?_
  refine g_cT_rowLengths X hP zd_T_append_38 ?_
  refine lv_iload X.1 X.2.1 zd_T_append_41 (lv_at hl 1 rfl) ?_
  refine lv_iload X.1 X.2.1 zd_T_append_43 (lv_at hl 0 rfl) ?_
  refine lv_iconst (v := nI 1) X.1 X.2.1 zd_T_append_45 (by decide) ?_
  refine lv_iadd X.1 X.2.1 zd_T_append_46 ?_
  refine z_top (nI_add _ _) ?_
  refine s_cT_rowLengths X hD hP hS (by omega) zd_T_append_47 (fun H locs hP hS => ?_)
  have hP : va_P K.1 zcl (cW K G (p_cT_rowLengths (p_cT_rows σ (upN (cT_rows σ) ((((n * 3) + a) * 4) + (cT_rowLengths σ ((n * 3) + a))) o)) (upN (cT_rowLengths σ) ((n * 3) + a) ((cT_rowLengths σ ((n * 3) + a)) + 1)))) H := hP
  refine lv_iconst (v := nI 0) X.1 X.2.1 zd_T_append_48 (by decide) ?_
  refine lv_istore (lv' := [(6, .int (nI 0)), (5, .int (nI (cT_rowLengths σ ((n * 3) + a)))), (4, .int (nI ((n * 3) + a))), (0, .ref (G 1)), (1, .int (nI n)), (2, .int (nI a)), (3, .int (nI o))]) X.1 X.2.1 zd_T_append_49 hl (by decide) rfl (fun ls hl => ?_)
  exact q_T_append l K G A hD X hr hml hlocks (cAppend0 σ n a o) n a o _ _ hn ho hN0 (cT_opened σ) 0 (by exact Nat.zero_add _) _ rfl H locs ls hP hS (lv_sub hl [0, 1, 2, 3, 4, 5, 6] rfl)

set_option maxHeartbeats 4000000 in
set_option maxRecDepth 100000 in
/-- Targets.append: the row is full -/
theorem k_T_append_0 (l : Launch) (K : zK) (G : Nat → Nat) (A : Nat → Prop) (hD : ∀ σ, va_D A (cW K G σ)) (σ : cS) (n a o : Nat) (hn : n < 20) (ha : a < 3) (hl4 : cT_rowLengths σ (n * 3 + a) = 4) : zMet l K A zy_T_append zws_T_append 1 [.ref (G 1), .int (nI n), .int (nI a), .int (nI o)] (cW K G σ) (cW K G σ) (some (.int (nI 0))) := by
  refine z_entry (by decide) (Nat.le_of_ble_eq_true rfl) ?_
  intro p e s m below meth c ls X hr hml hlocks hP hl
  have hS : va_S A s.heap s.heap [] := va_S.rf
  have hl : lv_has ls 7 [(0, .ref (G 1)), (1, .int (nI n)), (2, .int (nI a)), (3, .int (nI o))] := hl
  refine lv_iload_n X.1 X.2.1 zd_T_append_0 rfl (lv_at hl 1 rfl) ?_
  refine lv_iconst (v := nI 3) X.1 X.2.1 zd_T_append_1 (by decide) ?_
  refine lv_imul X.1 X.2.1 zd_T_append_2 ?_
  refine z_top (pk_mul _ _) ?_
  refine lv_iload_n X.1 X.2.1 zd_T_append_3 rfl (lv_at hl 2 rfl) ?_
  refine lv_iadd X.1 X.2.1 zd_T_append_4 ?_
  refine z_top (nI_add _ _) ?_
  refine lv_istore (lv' := [(4, .int (nI ((n * 3) + a))), (0, .ref (G 1)), (1, .int (nI n)), (2, .int (nI a)), (3, .int (nI o))]) X.1 X.2.1 zd_T_append_5 hl (by decide) rfl (fun ls hl => ?_)
  refine lv_aload_n X.1 X.2.1 zd_T_append_7 rfl (lv_at hl 1 rfl) ?_
  refine g_cT_rowLengths X hP zd_T_append_8 ?_
  refine lv_iload X.1 X.2.1 zd_T_append_11 (lv_at hl 0 rfl) ?_
  refine l_cT_rowLengths X hP (by omega) zd_T_append_13 ?_
  refine lv_istore (lv' := [(5, .int (nI (cT_rowLengths σ ((n * 3) + a)))), (4, .int (nI ((n * 3) + a))), (0, .ref (G 1)), (1, .int (nI n)), (2, .int (nI a)), (3, .int (nI o))]) X.1 X.2.1 zd_T_append_14 hl (by decide) rfl (fun ls hl => ?_)
  refine lv_iload X.1 X.2.1 zd_T_append_16 (lv_at hl 0 rfl) ?_
  refine lv_iconst (v := nI 4) X.1 X.2.1 zd_T_append_18 (by decide) ?_
  refine lv_icmp_lt (tgt := 24) X.1 X.2.1 zd_T_append_19 (by decide) (fun h9 => absurd h9 (by rw [nI_ltI (by omega) (by omega)]; omega)) (fun _ => ?_)
  refine lv_iconst (v := nI 0) X.1 X.2.1 zd_T_append_22 (by decide) ?_
  exact z_zret X.1 X.2.1 hr hlocks (Or.inl rfl) rfl rfl hP hS zd_T_append_23

set_option maxHeartbeats 4000000 in
set_option maxRecDepth 100000 in
/-- Aspects.open: a new one -/
theorem k_A_open_1 (l : Launch) (K : zK) (G : Nat → Nat) (A : Nat → Prop) (hD : ∀ σ, va_D A (cW K G σ)) (σ : cS) (k : Nat) (al w g nm : Int32) (ho : cA_opened σ < 8) : zMet l K A zy_A_open zws_A_open 0 [.ref (G 2), .int (nI k), .int al, .int w, .int g, .int nm] (cW K G σ) (cW K G (cOpenA σ k al w g nm)) (some (.int (nI (cA_opened σ)))) := by
  refine z_entry (by decide) (Nat.le_of_ble_eq_true rfl) ?_
  intro p e s m below meth c ls X hr hml hlocks hP hl
  have hS : va_S A s.heap s.heap [] := va_S.rf
  have hl : lv_has ls 7 [(0, .ref (G 2)), (1, .int (nI k)), (2, .int al), (3, .int w), (4, .int g), (5, .int nm)] := hl
  refine lv_aload_n X.1 X.2.1 zd_A_open_0 rfl (lv_at hl 0 rfl) ?_
  refine g_cA_opened X hP zd_A_open_1 ?_
  refine lv_bipush (v := nI 8) X.1 X.2.1 zd_A_open_4 (by decide) ?_
  refine lv_icmp_lt (tgt := 11) X.1 X.2.1 zd_A_open_6 (by decide) (fun _ => ?_) (fun h9 => absurd (by rw [nI_ltI (by omega) (by omega)]; omega) h9)
  refine lv_aload_n X.1 X.2.1 zd_A_open_11 rfl (lv_at hl 0 rfl) ?_
  refine g_cA_opened X hP zd_A_open_12 ?_
  refine lv_istore (lv' := [(6, .int (nI (cA_opened σ))), (0, .ref (G 2)), (1, .int (nI k)), (2, .int al), (3, .int w), (4, .int g), (5, .int nm)]) X.1 X.2.1 zd_A_open_15 hl (by decide) rfl (fun ls hl => ?_)
  refine lv_aload_n X.1 X.2.1 zd_A_open_17 rfl (lv_at hl 1 rfl) ?_
  refine g_cA_kinds X hP zd_A_open_18 ?_
  refine lv_iload X.1 X.2.1 zd_A_open_21 (lv_at hl 0 rfl) ?_
  refine lv_iload_n X.1 X.2.1 zd_A_open_23 rfl (lv_at hl 2 rfl) ?_
  refine s_cA_kinds X hD hP hS (by omega) zd_A_open_24 (fun H locs hP hS => ?_)
  have hP : va_P K.1 zcl (cW K G (p_cA_kinds σ (upN (cA_kinds σ) (cA_opened σ) k))) H := hP
  refine lv_aload_n X.1 X.2.1 zd_A_open_25 rfl (lv_at hl 1 rfl) ?_
  refine g_cA_alongs X hP zd_A_open_26 ?_
  refine lv_iload X.1 X.2.1 zd_A_open_29 (lv_at hl 0 rfl) ?_
  refine lv_iload_n X.1 X.2.1 zd_A_open_31 rfl (lv_at hl 3 rfl) ?_
  refine s_cA_alongs X hD hP hS (by omega) zd_A_open_32 (fun H locs hP hS => ?_)
  have hP : va_P K.1 zcl (cW K G (p_cA_alongs (p_cA_kinds σ (upN (cA_kinds σ) (cA_opened σ) k)) (upd (cA_alongs σ) (cA_opened σ) al))) H := hP
  refine lv_aload_n X.1 X.2.1 zd_A_open_33 rfl (lv_at hl 1 rfl) ?_
  refine g_cA_wants X hP zd_A_open_34 ?_
  refine lv_iload X.1 X.2.1 zd_A_open_37 (lv_at hl 0 rfl) ?_
  refine lv_iload_n X.1 X.2.1 zd_A_open_39 rfl (lv_at hl 4 rfl) ?_
  refine s_cA_wants X hD hP hS (by omega) zd_A_open_40 (fun H locs hP hS => ?_)
  have hP : va_P K.1 zcl (cW K G (p_cA_wants (p_cA_alongs (p_cA_kinds σ (upN (cA_kinds σ) (cA_opened σ) k)) (upd (cA_alongs σ) (cA_opened σ) al)) (upd (cA_wants σ) (cA_opened σ) w))) H := hP
  refine lv_aload_n X.1 X.2.1 zd_A_open_41 rfl (lv_at hl 1 rfl) ?_
  refine g_cA_gives X hP zd_A_open_42 ?_
  refine lv_iload X.1 X.2.1 zd_A_open_45 (lv_at hl 0 rfl) ?_
  refine lv_iload X.1 X.2.1 zd_A_open_47 (lv_at hl 5 rfl) ?_
  refine s_cA_gives X hD hP hS (by omega) zd_A_open_49 (fun H locs hP hS => ?_)
  have hP : va_P K.1 zcl (cW K G (p_cA_gives (p_cA_wants (p_cA_alongs (p_cA_kinds σ (upN (cA_kinds σ) (cA_opened σ) k)) (upd (cA_alongs σ) (cA_opened σ) al)) (upd (cA_wants σ) (cA_opened σ) w)) (upd (cA_gives σ) (cA_opened σ) g))) H := hP
  refine lv_aload_n X.1 X.2.1 zd_A_open_50 rfl (lv_at hl 1 rfl) ?_
  refine g_cA_names X hP zd_A_open_51 ?_
  refine lv_iload X.1 X.2.1 zd_A_open_54 (lv_at hl 0 rfl) ?_
  refine lv_iload X.1 X.2.1 zd_A_open_56 (lv_at hl 6 rfl) ?_
  refine s_cA_names X hD hP hS (by omega) zd_A_open_58 (fun H locs hP hS => ?_)
  have hP : va_P K.1 zcl (cW K G (p_cA_names (p_cA_gives (p_cA_wants (p_cA_alongs (p_cA_kinds σ (upN (cA_kinds σ) (cA_opened σ) k)) (upd (cA_alongs σ) (cA_opened σ) al)) (upd (cA_wants σ) (cA_opened σ) w)) (upd (cA_gives σ) (cA_opened σ) g)) (upd (cA_names σ) (cA_opened σ) nm))) H := hP
  refine lv_aload_n X.1 X.2.1 zd_A_open_59 rfl (lv_at hl 1 rfl) ?_
  refine g_cA_reached X hP zd_A_open_60 ?_
  refine lv_iload X.1 X.2.1 zd_A_open_63 (lv_at hl 0 rfl) ?_
  refine lv_iconst (v := nI 1) X.1 X.2.1 zd_A_open_65 (by decide) ?_
  refine lv_iload X.1 X.2.1 zd_A_open_66 (lv_at hl 0 rfl) ?_
  refine lv_ishl X.1 X.2.1 zd_A_open_68 ?_
  refine s_cA_reached X hD hP hS (by omega) zd_A_open_69 (fun H locs hP hS => ?_)
  have hP : va_P K.1 zcl (cW K G (p_cA_reached (p_cA_names (p_cA_gives (p_cA_wants (p_cA_alongs (p_cA_kinds σ (upN (cA_kinds σ) (cA_opened σ) k)) (upd (cA_alongs σ) (cA_opened σ) al)) (upd (cA_wants σ) (cA_opened σ) w)) (upd (cA_gives σ) (cA_opened σ) g)) (upd (cA_names σ) (cA_opened σ) nm)) (upd (cA_reached σ) (cA_opened σ) ((nI 1) <<< ((nI (cA_opened σ)) &&& 31))))) H := hP
  refine lv_aload_n X.1 X.2.1 zd_A_open_70 rfl (lv_at hl 1 rfl) ?_
  refine lv_dup X.1 X.2.1 zd_A_open_71 rfl ?_
  refine g_cA_opened X hP zd_A_open_72 ?_
  refine z_top (y := (nI (cA_opened σ))) rfl ?_
  refine lv_iconst (v := nI 1) X.1 X.2.1 zd_A_open_75 (by decide) ?_
  refine lv_iadd X.1 X.2.1 zd_A_open_76 ?_
  refine z_top (nI_add _ _) ?_
  refine s_cA_opened X hD hP hS zd_A_open_77 (fun H locs hP hS => ?_)
  have hP : va_P K.1 zcl (cW K G (p_cA_opened (p_cA_reached (p_cA_names (p_cA_gives (p_cA_wants (p_cA_alongs (p_cA_kinds σ (upN (cA_kinds σ) (cA_opened σ) k)) (upd (cA_alongs σ) (cA_opened σ) al)) (upd (cA_wants σ) (cA_opened σ) w)) (upd (cA_gives σ) (cA_opened σ) g)) (upd (cA_names σ) (cA_opened σ) nm)) (upd (cA_reached σ) (cA_opened σ) ((nI 1) <<< ((nI (cA_opened σ)) &&& 31)))) ((cA_opened σ) + 1))) H := hP
  refine lv_iload X.1 X.2.1 zd_A_open_80 (lv_at hl 0 rfl) ?_
  exact z_iret X.1 X.2.1 hr hlocks rfl rfl hP hS zd_A_open_82

set_option maxHeartbeats 4000000 in
set_option maxRecDepth 100000 in
/-- Aspects.open: full -/
theorem k_A_open_0 (l : Launch) (K : zK) (G : Nat → Nat) (A : Nat → Prop) (hD : ∀ σ, va_D A (cW K G σ)) (σ : cS) (k : Nat) (al w g nm : Int32) (ho : cA_opened σ = 8) : zMet l K A zy_A_open zws_A_open 0 [.ref (G 2), .int (nI k), .int al, .int w, .int g, .int nm] (cW K G σ) (cW K G σ) (some (.int (-1))) := by
  refine z_entry (by decide) (Nat.le_of_ble_eq_true rfl) ?_
  intro p e s m below meth c ls X hr hml hlocks hP hl
  have hS : va_S A s.heap s.heap [] := va_S.rf
  have hl : lv_has ls 7 [(0, .ref (G 2)), (1, .int (nI k)), (2, .int al), (3, .int w), (4, .int g), (5, .int nm)] := hl
  refine lv_aload_n X.1 X.2.1 zd_A_open_0 rfl (lv_at hl 0 rfl) ?_
  refine g_cA_opened X hP zd_A_open_1 ?_
  refine lv_bipush (v := nI 8) X.1 X.2.1 zd_A_open_4 (by decide) ?_
  refine lv_icmp_lt (tgt := 11) X.1 X.2.1 zd_A_open_6 (by decide) (fun h9 => absurd h9 (by rw [nI_ltI (by omega) (by omega)]; omega)) (fun _ => ?_)
  refine lv_iconst (v := -1) X.1 X.2.1 zd_A_open_9 (by decide) ?_
  exact z_iret X.1 X.2.1 hr hlocks rfl rfl hP hS zd_A_open_10

theorem cDirect_mono (σ : cS) (n o : Nat) {j k : Nat} (h : j ≤ k) (hj : cDirect σ n o j = true) : cDirect σ n o k = true := by
  induction k with
  | zero => rw [show j = 0 by omega] at hj; exact hj
  | succ k ih =>
    rcases Nat.lt_or_ge j (k + 1) with q | q
    · rw [cDirect, ih (by omega)]; rfl
    · rw [show k + 1 = j by omega]; exact hj
def b01 (b : Bool) : Nat := if b = true then 1 else 0
theorem b01_le (b : Bool) : b01 b ≤ 1 := by unfold b01; split <;> omega
theorem b01_lt (b : Bool) : b01 b < 2 ^ 31 := Nat.lt_of_le_of_lt (b01_le b) (by decide)

set_option maxHeartbeats 4000000 in
set_option maxRecDepth 100000 in
/-- needsDirectly's loop -/
theorem q_A_needsDirectly {p : Program} {e : Env} {s : State} {m : MethodId} {args : Array Value} {below : List Frame} {meth : Method} {c : Code} (l : Launch) (K : zK) (G : Nat → Nat) (A : Nat → Prop) (hD : ∀ σ, va_D A (cW K G σ)) (X : zFx K zR_A zb_A_needsDirectly p s m args c) (hr : meth.sig.returnType = (some .boolean)) (hml : c.maxLocals = 4) (hlocks : meth.locks = false) (σ : cS) (n o : Nat) (hn : n < 8) (ho : o < 8) (h3 : cA_needCounts σ n ≤ 3) (hb : ∀ q, cA_needs σ q < 8) : ∀ (j i : Nat), i + j = cA_needCounts σ n → ∀ (τ : cS), τ = σ → cDirect σ n o i = false → ∀ (H : Heap) (locs : List Loc) (ls : Array Slot), va_P K.1 zcl (cW K G τ) H → va_S A s.heap H locs → lv_has ls 4 [(3, .int (nI i)), (0, .ref (G 2)), (1, .int (nI n)), (2, .int (nI o))] → W p l e (zrm 1) s m args below meth c H locs 0 0 (MQ below (zPost K A (cW K G σ) (some (.int (nI (b01 (cDirect σ n o (cA_needCounts σ n))))))) args s 0 0 A) (F0 m 2 ls []) := by
  intro j
  induction j with
  | zero =>
    intro i hi τ hτ hinv H locs ls hP hS hl
    have hN : cA_needCounts τ n = cA_needCounts σ n := by rw [hτ]
    have hq := hb (n * 3 + i)
    have hq2 : cA_needs τ (n * 3 + i) < 8 := by rw [hτ]; exact hq
    refine lv_iload_n X.1 X.2.1 zd_A_needsDirectly_2 rfl (lv_at hl 0 rfl) ?_
    refine lv_aload_n X.1 X.2.1 zd_A_needsDirectly_3 rfl (lv_at hl 1 rfl) ?_
    refine g_cA_needCounts X hP zd_A_needsDirectly_4 ?_
    refine lv_iload_n X.1 X.2.1 zd_A_needsDirectly_7 rfl (lv_at hl 2 rfl) ?_
    refine l_cA_needCounts X hP (by omega) zd_A_needsDirectly_8 ?_
    refine lv_icmp_ge (tgt := 30) X.1 X.2.1 zd_A_needsDirectly_9 (by decide) (fun _ => ?_) (fun h9 => absurd (by rw [nI_leI (by omega) (by omega)]; omega) h9)
    refine lv_iconst (v := nI 0) X.1 X.2.1 zd_A_needsDirectly_30 (by decide) ?_
    exact z_zret X.1 X.2.1 hr hlocks (Or.inl rfl) (by subst hτ; rw [show cA_needCounts τ n = i by omega, hinv]; rfl) (by rw [hτ]) hP hS zd_A_needsDirectly_31
  | succ j ih =>
    intro i hi τ hτ hinv H locs ls hP hS hl
    have hN : cA_needCounts τ n = cA_needCounts σ n := by rw [hτ]
    have hq := hb (n * 3 + i)
    have hq2 : cA_needs τ (n * 3 + i) < 8 := by rw [hτ]; exact hq
    refine lv_iload_n X.1 X.2.1 zd_A_needsDirectly_2 rfl (lv_at hl 0 rfl) ?_
    refine lv_aload_n X.1 X.2.1 zd_A_needsDirectly_3 rfl (lv_at hl 1 rfl) ?_
    refine g_cA_needCounts X hP zd_A_needsDirectly_4 ?_
    refine lv_iload_n X.1 X.2.1 zd_A_needsDirectly_7 rfl (lv_at hl 2 rfl) ?_
    refine l_cA_needCounts X hP (by omega) zd_A_needsDirectly_8 ?_
    refine lv_icmp_ge (tgt := 30) X.1 X.2.1 zd_A_needsDirectly_9 (by decide) (fun h9 => absurd h9 (by rw [nI_leI (by omega) (by omega)]; omega)) (fun _ => ?_)
    refine lv_aload_n X.1 X.2.1 zd_A_needsDirectly_12 rfl (lv_at hl 1 rfl) ?_
    refine lv_iload_n X.1 X.2.1 zd_A_needsDirectly_13 rfl (lv_at hl 2 rfl) ?_
    refine lv_iload_n X.1 X.2.1 zd_A_needsDirectly_14 rfl (lv_at hl 0 rfl) ?_
    refine z_callVi (As := [.int (nI n), .int (nI i)]) (rest := []) (q0 := 2) (ci := 1) X hml (k_A_needAt l K G A hD τ n i (by omega) (by omega)) (zk_A_40 X.2.2.2.1 (z_rm (by omega) (by decide))) rfl rfl rfl hP hS rfl hl.1 rfl (Nat.le_of_ble_eq_true rfl) zd_A_needsDirectly_15 ⟨Nat.zero_le _, Nat.zero_le _⟩ (fun H locs hP hS => ?_)
    refine lv_iload_n X.1 X.2.1 zd_A_needsDirectly_18 rfl (lv_at hl 3 rfl) ?_
    refine lv_icmp_ne (tgt := 24) X.1 X.2.1 zd_A_needsDirectly_19 (by decide) (fun c1 => ?_) (fun c1 => ?_)
    · rw [nI_eq (by omega) (by omega)] at c1
      refine lv_iinc (v := nI (i + 1)) (lv' := [(3, .int (nI (i + 1))), (0, .ref (G 2)), (1, .int (nI n)), (2, .int (nI o))]) X.1 X.2.1 zd_A_needsDirectly_24 hl (k := 0) rfl (nI_1 _) (by decide) rfl (fun ls hl => ?_)
      refine lv_goto (tgt := 2) X.1 X.2.1 zd_A_needsDirectly_27 (by decide) ?_
      exact ih (i + 1) (by omega) _ hτ (by subst hτ; simp [cDirect, *]) H locs ls hP hS (lv_sub hl [0, 1, 2, 3] rfl)
    · rw [nI_eq (by omega) (by omega)] at c1
      refine lv_iconst (v := nI 1) X.1 X.2.1 zd_A_needsDirectly_22 (by decide) ?_
      exact z_zret X.1 X.2.1 hr hlocks (Or.inr rfl) (by rw [cDirect_mono σ n o (j := i + 1) (by omega) (by subst hτ; simp [cDirect, *])]; rfl) (by rw [hτ]) hP hS zd_A_needsDirectly_23

set_option maxHeartbeats 4000000 in
set_option maxRecDepth 100000 in
/-- Aspects.needsDirectly(n, o) -/
theorem k_A_needsDirectly (l : Launch) (K : zK) (G : Nat → Nat) (A : Nat → Prop) (hD : ∀ σ, va_D A (cW K G σ)) (σ : cS) (n o : Nat) (hn : n < 8) (ho : o < 8) (h3 : cA_needCounts σ n ≤ 3) (hb : ∀ q, cA_needs σ q < 8) : zMet l K A zy_A_needsDirectly zws_A_needsDirectly 1 [.ref (G 2), .int (nI n), .int (nI o)] (cW K G σ) (cW K G σ) (some (.int (nI (b01 (cDirect σ n o (cA_needCounts σ n)))))) := by
  refine z_entry (by decide) (Nat.le_of_ble_eq_true rfl) ?_
  intro p e s m below meth c ls X hr hml hlocks hP hl
  have hS : va_S A s.heap s.heap [] := va_S.rf
  have hl : lv_has ls 4 [(0, .ref (G 2)), (1, .int (nI n)), (2, .int (nI o))] := hl
  refine lv_iconst (v := nI 0) X.1 X.2.1 zd_A_needsDirectly_0 (by decide) ?_
  refine lv_istore_n (lv' := [(3, .int (nI 0)), (0, .ref (G 2)), (1, .int (nI n)), (2, .int (nI o))]) X.1 X.2.1 zd_A_needsDirectly_1 rfl hl (by decide) rfl (fun ls hl => ?_)
  exact q_A_needsDirectly l K G A hD X hr hml hlocks σ n o hn ho h3 hb (cA_needCounts σ n) 0 (Nat.zero_add _) _ rfl rfl s.heap [] ls hP hS (lv_sub hl [0, 1, 2, 3] rfl)

set_option maxHeartbeats 4000000 in
set_option maxRecDepth 100000 in
/-- appendNeed's loop -/
theorem q_A_appendNeed {p : Program} {e : Env} {s : State} {m : MethodId} {args : Array Value} {below : List Frame} {meth : Method} {c : Code} (l : Launch) (K : zK) (G : Nat → Nat) (A : Nat → Prop) (hD : ∀ σ, va_D A (cW K G σ)) (X : zFx K zR_A zb_A_appendNeed p s m args c) (hr : meth.sig.returnType = none) (hml : c.maxLocals = 4) (hlocks : meth.locks = false) (σ : cS) (n o : Nat) (hn : n < 8) (ho : o < 8) (hN0 : cA_opened σ ≤ 8) : ∀ (j i : Nat), i + j = cA_opened σ → ∀ (τ : cS), τ = cReachA σ n o i → ∀ (H : Heap) (locs : List Loc) (ls : Array Slot), va_P K.1 zcl (cW K G τ) H → va_S A s.heap H locs → lv_has ls 4 [(3, .int (nI i)), (0, .ref (G 2)), (1, .int (nI n)), (2, .int (nI o))] → W p l e (zrm 1) s m args below meth c H locs 0 0 (MQ below (zPost K A (cW K G (cReachA σ n o (cA_opened σ))) none) args s 0 0 A) (F0 m 28 ls []) := by
  intro j
  induction j with
  | zero =>
    intro i hi τ hτ H locs ls hP hS hl
    have hN : cA_opened τ = cA_opened σ := by rw [hτ]; exact cReachA_opened σ n o i
    refine lv_iload_n X.1 X.2.1 zd_A_appendNeed_28 rfl (lv_at hl 0 rfl) ?_
    refine lv_aload_n X.1 X.2.1 zd_A_appendNeed_29 rfl (lv_at hl 1 rfl) ?_
    refine g_cA_opened X hP zd_A_appendNeed_30 ?_
    refine z_top (congrArg nI hN) ?_
    refine lv_icmp_ge (tgt := 66) X.1 X.2.1 zd_A_appendNeed_33 (by decide) (fun _ => ?_) (fun h9 => absurd (by rw [nI_leI (by omega) (by omega)]; omega) h9)
    exact z_vret X.1 X.2.1 hr hlocks (by subst hτ; rw [show i = cA_opened σ by omega]) hP hS zd_A_appendNeed_66
  | succ j ih =>
    intro i hi τ hτ H locs ls hP hS hl
    have hN : cA_opened τ = cA_opened σ := by rw [hτ]; exact cReachA_opened σ n o i
    refine lv_iload_n X.1 X.2.1 zd_A_appendNeed_28 rfl (lv_at hl 0 rfl) ?_
    refine lv_aload_n X.1 X.2.1 zd_A_appendNeed_29 rfl (lv_at hl 1 rfl) ?_
    refine g_cA_opened X hP zd_A_appendNeed_30 ?_
    refine z_top (congrArg nI hN) ?_
    refine lv_icmp_ge (tgt := 66) X.1 X.2.1 zd_A_appendNeed_33 (by decide) (fun h9 => absurd h9 (by rw [nI_leI (by omega) (by omega)]; omega)) (fun _ => ?_)
    refine lv_aload_n X.1 X.2.1 zd_A_appendNeed_36 rfl (lv_at hl 1 rfl) ?_
    refine lv_iload_n X.1 X.2.1 zd_A_appendNeed_37 rfl (lv_at hl 0 rfl) ?_
    refine lv_iload_n X.1 X.2.1 zd_A_appendNeed_38 rfl (lv_at hl 2 rfl) ?_
    refine z_callVi (As := [.int (nI i), .int (nI n)]) (rest := []) (q0 := 2) (ci := 1) X hml (k_A_leadsTo l K G A hD τ i n (by omega)) (zk_A_44 X.2.2.2.1 (z_rm (by omega) (by decide))) rfl rfl rfl hP hS rfl hl.1 rfl (Nat.le_of_ble_eq_true rfl) zd_A_appendNeed_39 ⟨Nat.zero_le _, Nat.zero_le _⟩ (fun H locs hP hS => ?_)
    refine lv_if_eq (tgt := 60) X.1 X.2.1 zd_A_appendNeed_42 (by decide) (fun c1 => ?_) (fun c1 => ?_)
    · rw [z_eq0 (cLead_lt _ _)] at c1
      refine lv_iinc (v := nI (i + 1)) (lv' := [(3, .int (nI (i + 1))), (0, .ref (G 2)), (1, .int (nI n)), (2, .int (nI o))]) X.1 X.2.1 zd_A_appendNeed_60 hl (k := 0) rfl (nI_1 _) (by decide) rfl (fun ls hl => ?_)
      refine lv_goto (tgt := 28) X.1 X.2.1 zd_A_appendNeed_63 (by decide) ?_
      exact ih (i + 1) (by omega) _ (by subst hτ; rw [cReachA]; simp [*]) H locs ls hP hS (lv_sub hl [0, 1, 2, 3] rfl)
    · rw [z_eq0 (cLead_lt _ _)] at c1
      refine lv_aload_n X.1 X.2.1 zd_A_appendNeed_45 rfl (lv_at hl 1 rfl) ?_
      refine g_cA_reached X hP zd_A_appendNeed_46 ?_
      refine lv_iload_n X.1 X.2.1 zd_A_appendNeed_49 rfl (lv_at hl 0 rfl) ?_
      refine lv_dup2_11 X.1 X.2.1 zd_A_appendNeed_50 rfl rfl ?_
      refine l_cA_reached X hP (by omega) zd_A_appendNeed_51 ?_
      refine lv_aload_n X.1 X.2.1 zd_A_appendNeed_52 rfl (lv_at hl 1 rfl) ?_
      refine g_cA_reached X hP zd_A_appendNeed_53 ?_
      refine lv_iload_n X.1 X.2.1 zd_A_appendNeed_56 rfl (lv_at hl 3 rfl) ?_
      refine l_cA_reached X hP (by omega) zd_A_appendNeed_57 ?_
      refine lv_ior X.1 X.2.1 zd_A_appendNeed_58 ?_
      refine s_cA_reached X hD hP hS (by omega) zd_A_appendNeed_59 (fun H locs hP hS => ?_)
      have hP : va_P K.1 zcl (cW K G (p_cA_reached τ (upd (cA_reached τ) i ((cA_reached τ i) ||| (cA_reached τ o))))) H := hP
      refine lv_iinc (v := nI (i + 1)) (lv' := [(3, .int (nI (i + 1))), (0, .ref (G 2)), (1, .int (nI n)), (2, .int (nI o))]) X.1 X.2.1 zd_A_appendNeed_60 hl (k := 0) rfl (nI_1 _) (by decide) rfl (fun ls hl => ?_)
      refine lv_goto (tgt := 28) X.1 X.2.1 zd_A_appendNeed_63 (by decide) ?_
      exact ih (i + 1) (by omega) _ (by subst hτ; rw [cReachA]; simp [*]) H locs ls hP hS (lv_sub hl [0, 1, 2, 3] rfl)

set_option maxHeartbeats 4000000 in
set_option maxRecDepth 100000 in
/-- Aspects.appendNeed(n, o) -/
theorem k_A_appendNeed (l : Launch) (K : zK) (G : Nat → Nat) (A : Nat → Prop) (hD : ∀ σ, va_D A (cW K G σ)) (σ : cS) (n o : Nat) (hn : n < 8) (ho : o < 8) (hN0 : cA_opened σ ≤ 8) (h3 : cA_needCounts σ n < 3) : zMet l K A zy_A_appendNeed zws_A_appendNeed 1 [.ref (G 2), .int (nI n), .int (nI o)] (cW K G σ) (cW K G (cAppendNeed σ n o)) none := by
  refine z_entry (by decide) (Nat.le_of_ble_eq_true rfl) ?_
  intro p e s m below meth c ls X hr hml hlocks hP hl
  have hS : va_S A s.heap s.heap [] := va_S.rf
  have hl : lv_has ls 4 [(0, .ref (G 2)), (1, .int (nI n)), (2, .int (nI o))] := hl
  refine lv_aload_n X.1 X.2.1 zd_A_appendNeed_0 rfl (lv_at hl 0 rfl) ?_
  refine g_cA_needs X hP zd_A_appendNeed_1 ?_
  refine lv_iload_n X.1 X.2.1 zd_A_appendNeed_4 rfl (lv_at hl 1 rfl) ?_
  refine lv_iconst (v := nI 3) X.1 X.2.1 zd_A_appendNeed_5 (by decide) ?_
  refine lv_imul X.1 X.2.1 zd_A_appendNeed_6 ?_
  refine z_top (pk_mul _ _) ?_
  refine lv_aload_n X.1 X.2.1 zd_A_appendNeed_7 rfl (lv_at hl 0 rfl) ?_
  refine g_cA_needCounts X hP zd_A_appendNeed_8 ?_
  refine lv_iload_n X.1 X.2.1 zd_A_appendNeed_11 rfl (lv_at hl 1 rfl) ?_
  refine l_cA_needCounts X hP (by omega) zd_A_appendNeed_12 ?_
  refine lv_iadd X.1 X.2.1 zd_A_appendNeed_13 ?_
  refine z_top (nI_add _ _) ?_
  refine lv_iload_n X.1 X.2.1 zd_A_appendNeed_14 rfl (lv_at hl 2 rfl) ?_
  refine s_cA_needs X hD hP hS (by omega) zd_A_appendNeed_15 (fun H locs hP hS => ?_)
  have hP : va_P K.1 zcl (cW K G (p_cA_needs σ (upN (cA_needs σ) ((n * 3) + (cA_needCounts σ n)) o))) H := hP
  refine lv_aload_n X.1 X.2.1 zd_A_appendNeed_16 rfl (lv_at hl 0 rfl) ?_
  refine g_cA_needCounts X hP zd_A_appendNeed_17 ?_
  refine lv_iload_n X.1 X.2.1 zd_A_appendNeed_20 rfl (lv_at hl 1 rfl) ?_
  refine lv_dup2_11 X.1 X.2.1 zd_A_appendNeed_21 rfl rfl ?_
  refine l_cA_needCounts X hP (by omega) zd_A_appendNeed_22 ?_
  refine z_top (y := (nI (cA_needCounts σ n))) rfl ?_
  refine lv_iconst (v := nI 1) X.1 X.2.1 zd_A_appendNeed_23 (by decide) ?_
  refine lv_iadd X.1 X.2.1 zd_A_appendNeed_24 ?_
  refine z_top (nI_add _ _) ?_
  refine s_cA_needCounts X hD hP hS (by omega) zd_A_appendNeed_25 (fun H locs hP hS => ?_)
  have hP : va_P K.1 zcl (cW K G (p_cA_needCounts (p_cA_needs σ (upN (cA_needs σ) ((n * 3) + (cA_needCounts σ n)) o)) (upN (cA_needCounts σ) n ((cA_needCounts σ n) + 1)))) H := hP
  refine lv_iconst (v := nI 0) X.1 X.2.1 zd_A_appendNeed_26 (by decide) ?_
  refine lv_istore_n (lv' := [(3, .int (nI 0)), (0, .ref (G 2)), (1, .int (nI n)), (2, .int (nI o))]) X.1 X.2.1 zd_A_appendNeed_27 rfl hl (by decide) rfl (fun ls hl => ?_)
  exact q_A_appendNeed l K G A hD X hr hml hlocks (cAppendNeed0 σ n o) n o hn ho hN0 (cA_opened σ) 0 (by exact Nat.zero_add _) _ rfl H locs ls hP hS (lv_sub hl [0, 1, 2, 3] rfl)
end
section
/-! contracts of Memory.forget, Integer.bitCount, Math.max, and of the class's helpers that only read (by program: wip/gen/wpriv.py) -/
def cUsh (x : Int32) (k : Nat) : Int32 := (x.toUInt32 >>> ((nI k).toUInt32 &&& Int32.toUInt32 31)).toInt32
def cBit1 (x : Int32) : Int32 := x - (cUsh x 1 &&& 1431655765)
def cBit2 (x : Int32) : Int32 := (x &&& 858993459) + (cUsh x 2 &&& 858993459)
def cBit3 (x : Int32) : Int32 := (x + cUsh x 4) &&& 252645135
def cBit4 (x : Int32) : Int32 := x + cUsh x 8
def cBit5 (x : Int32) : Int32 := x + cUsh x 16
/-- Integer.bitCount -/
def cBit (x : Int32) : Int32 := cBit5 (cBit4 (cBit3 (cBit2 (cBit1 x)))) &&& nI 63
/-- Math.max -/
def cMax (x y : Int64) : Int64 := if y < x then x else y
def cForget3 (σ : cS) (t a : Nat) : cS := p_cM_passedSettings (p_cM_doneSettings (p_cM_nowDone σ (cM_nowDone σ - cBit (cM_doneSettings σ (t * 8 + a)))) (upd (cM_doneSettings σ) (t * 8 + a) (nI 0))) (upd (cM_passedSettings σ) (t * 8 + a) (nI 0))
def cForgetQ (σ : cS) (t a q : Nat) : cS := if cM_makers σ (t * 10 + q) = nI a then p_cM_makers (cForget3 σ t a) (upd (cM_makers σ) (t * 10 + q) (-1)) else cForget3 σ t a
def cForget (σ : cS) (t a : Nat) (nm : Int32) : cS := if nm = -1 then cForget3 σ t a else cForgetQ σ t a nm.toNatClampNeg
def cJoin (kd : Nat) (x y : Int64) : Int64 := if kd = 1 then cMax x y else if kd = 2 then 31 * x + y else x + y
def cJoinPart (σ : cS) (kd : Nat) (x : Int64) (t a k : Nat) : Int64 := if cKnown σ t a k = nI 1 then cJoin kd x (cM_results σ ((t * 8 + a) * 16 + k)) else x
def cLen (σ : cS) (t a z : Nat) : Nat := if cLead (cA_alongs σ a) z = 0 then 0 else cT_rowLengths σ (t * 3 + z)
def cJN (σ : cS) (kd : Nat) (x : Int64) (t a k : Nat) : Nat → Int64
  | 0 => x
  | i + 1 => cJoinPart σ kd (cJN σ kd x t a k i) t (cA_needs σ (a * 3 + i)) k
def cJBi (σ : cS) (kd : Nat) (x : Int64) (t a k z : Nat) : Nat → Int64
  | 0 => x
  | i + 1 => cJoinPart σ kd (cJBi σ kd x t a k z i) (cT_rows σ ((t * 3 + z) * 4 + i)) a k
def cJB (σ : cS) (kd : Nat) (x : Int64) (t a k : Nat) : Nat → Int64
  | 0 => x
  | z + 1 => cJBi σ kd (cJB σ kd x t a k z) t a k z (cLen σ t a z)
def cJoined (σ : cS) (t a k : Nat) : Int64 := if cA_kinds σ a = 3 then cJB σ (cA_kinds σ a) 1 t a k 3 else cJN σ (cA_kinds σ a) (cJB σ (cA_kinds σ a) (cT_values σ t + (nI k).toInt64) t a k 3) t a k (cA_needCounts σ a)
/-- what is offered: the target's own, and what the first i needs give that are done -/
def cOffer (σ : cS) (t a k : Nat) : Nat → Int32
  | 0 => cT_providers σ t
  | i + 1 => if cKnown σ t (cA_needs σ (a * 3 + i)) k = nI 1 then cOffer σ t a k i ||| cA_gives σ (cA_needs σ (a * 3 + i)) else cOffer σ t a k i
def cLacks (σ : cS) (t a k : Nat) : Nat := if cA_wants σ a &&& (cOffer σ t a k (cA_needCounts σ a) ^^^ (-1)) = 0 then 0 else 1
theorem cLacks_lt (σ : cS) (t a k : Nat) : cLacks σ t a k < 2 ^ 31 := by unfold cLacks; split <;> decide
def cAsked (σ : cS) (x y z : Int32) : Nat := if cHas (cT_opened σ) x = 0 then 0 else if cHas (cA_opened σ) y = 0 then 0 else if z < 0 then 0 else if nI 16 ≤ z then 0 else 1
theorem cAsked_lt (σ : cS) (x y z : Int32) : cAsked σ x y z < 2 ^ 31 := by unfold cAsked; split <;> (try split) <;> (try split) <;> (try split) <;> decide
/-- the bounds that the class keeps in Targets and Aspects -/
def cB (σ : cS) : Prop := cT_opened σ ≤ 20 ∧ cA_opened σ ≤ 8 ∧ (∀ q, cT_ends σ q < 20) ∧ (∀ q, cT_rows σ q < 20) ∧ (∀ q, cT_rowLengths σ q ≤ 4) ∧ (∀ q, cA_needs σ q < 8) ∧ (∀ q, cA_needCounts σ q ≤ 3) ∧ (∀ q, cA_kinds σ q ≤ 3) ∧ (∀ q, cA_names σ q = -1 ∨ ∃ n, n < 10 ∧ cA_names σ q = nI n)
theorem cLen_le {σ : cS} (hB : cB σ) (t a z : Nat) : cLen σ t a z ≤ 4 := by
  unfold cLen; split
  · omega
  · exact hB.2.2.2.2.1 _

set_option maxHeartbeats 4000000 in
set_option maxRecDepth 100000 in
/-- Integer.bitCount(x) -/
theorem k_Ji_bitCount (l : Launch) (K : zK) (G : Nat → Nat) (A : Nat → Prop) (hD : ∀ σ, va_D A (cW K G σ)) (σ : cS) (x : Int32) : zMet l K A zy_Ji_bitCount zws_Ji_bitCount 0 [.int x] (cW K G σ) (cW K G σ) (some (.int (cBit x))) := by
  refine z_entry (by decide) (Nat.le_of_ble_eq_true rfl) ?_
  intro p e s m below meth c ls X hr hml hlocks hP hl
  have hS : va_S A s.heap s.heap [] := va_S.rf
  have hl : lv_has ls 1 [(0, .int x)] := hl
  refine lv_iload_n X.1 X.2.1 zd_Ji_bitCount_0 rfl (lv_at hl 0 rfl) ?_
  refine lv_iload_n X.1 X.2.1 zd_Ji_bitCount_1 rfl (lv_at hl 0 rfl) ?_
  refine lv_iconst (v := nI 1) X.1 X.2.1 zd_Ji_bitCount_2 (by decide) ?_
  refine lv_iushr (v := cUsh x 1) X.1 X.2.1 zd_Ji_bitCount_3 rfl ?_
  refine lv_ldcw (v := 1431655765) X.1 X.2.1 X.2.2.1 (X.2.2.2.1 _ zw_202) zd_Ji_bitCount_4 ?_
  refine lv_iand X.1 X.2.1 zd_Ji_bitCount_7 ?_
  refine lv_isub X.1 X.2.1 zd_Ji_bitCount_8 ?_
  refine lv_istore_n (lv' := [(0, .int (x - ((cUsh x 1) &&& 1431655765)))]) X.1 X.2.1 zd_Ji_bitCount_9 rfl hl (by decide) rfl (fun ls hl => ?_)
  refine lv_iload_n X.1 X.2.1 zd_Ji_bitCount_10 rfl (lv_at hl 0 rfl) ?_
  refine lv_ldcw (v := 858993459) X.1 X.2.1 X.2.2.1 (X.2.2.2.1 _ zw_203) zd_Ji_bitCount_11 ?_
  refine lv_iand X.1 X.2.1 zd_Ji_bitCount_14 ?_
  refine lv_iload_n X.1 X.2.1 zd_Ji_bitCount_15 rfl (lv_at hl 0 rfl) ?_
  refine lv_iconst (v := nI 2) X.1 X.2.1 zd_Ji_bitCount_16 (by decide) ?_
  refine lv_iushr (v := cUsh (x - ((cUsh x 1) &&& 1431655765)) 2) X.1 X.2.1 zd_Ji_bitCount_17 rfl ?_
  refine lv_ldcw (v := 858993459) X.1 X.2.1 X.2.2.1 (X.2.2.2.1 _ zw_203) zd_Ji_bitCount_18 ?_
  refine lv_iand X.1 X.2.1 zd_Ji_bitCount_21 ?_
  refine lv_iadd X.1 X.2.1 zd_Ji_bitCount_22 ?_
  refine lv_istore_n (lv' := [(0, .int (((x - ((cUsh x 1) &&& 1431655765)) &&& 858993459) + ((cUsh (x - ((cUsh x 1) &&& 1431655765)) 2) &&& 858993459)))]) X.1 X.2.1 zd_Ji_bitCount_23 rfl hl (by decide) rfl (fun ls hl => ?_)
  refine lv_iload_n X.1 X.2.1 zd_Ji_bitCount_24 rfl (lv_at hl 0 rfl) ?_
  refine lv_iload_n X.1 X.2.1 zd_Ji_bitCount_25 rfl (lv_at hl 0 rfl) ?_
  refine lv_iconst (v := nI 4) X.1 X.2.1 zd_Ji_bitCount_26 (by decide) ?_
  refine lv_iushr (v := cUsh (((x - ((cUsh x 1) &&& 1431655765)) &&& 858993459) + ((cUsh (x - ((cUsh x 1) &&& 1431655765)) 2) &&& 858993459)) 4) X.1 X.2.1 zd_Ji_bitCount_27 rfl ?_
  refine lv_iadd X.1 X.2.1 zd_Ji_bitCount_28 ?_
  refine lv_ldcw (v := 252645135) X.1 X.2.1 X.2.2.1 (X.2.2.2.1 _ zw_204) zd_Ji_bitCount_29 ?_
  refine lv_iand X.1 X.2.1 zd_Ji_bitCount_32 ?_
  refine lv_istore_n (lv' := [(0, .int (((((x - ((cUsh x 1) &&& 1431655765)) &&& 858993459) + ((cUsh (x - ((cUsh x 1) &&& 1431655765)) 2) &&& 858993459)) + (cUsh (((x - ((cUsh x 1) &&& 1431655765)) &&& 858993459) + ((cUsh (x - ((cUsh x 1) &&& 1431655765)) 2) &&& 858993459)) 4)) &&& 252645135))]) X.1 X.2.1 zd_Ji_bitCount_33 rfl hl (by decide) rfl (fun ls hl => ?_)
  refine lv_iload_n X.1 X.2.1 zd_Ji_bitCount_34 rfl (lv_at hl 0 rfl) ?_
  refine lv_iload_n X.1 X.2.1 zd_Ji_bitCount_35 rfl (lv_at hl 0 rfl) ?_
  refine lv_bipush (v := nI 8) X.1 X.2.1 zd_Ji_bitCount_36 (by decide) ?_
  refine lv_iushr (v := cUsh (((((x - ((cUsh x 1) &&& 1431655765)) &&& 858993459) + ((cUsh (x - ((cUsh x 1) &&& 1431655765)) 2) &&& 858993459)) + (cUsh (((x - ((cUsh x 1) &&& 1431655765)) &&& 858993459) + ((cUsh (x - ((cUsh x 1) &&& 1431655765)) 2) &&& 858993459)) 4)) &&& 252645135) 8) X.1 X.2.1 zd_Ji_bitCount_38 rfl ?_
  refine lv_iadd X.1 X.2.1 zd_Ji_bitCount_39 ?_
  refine lv_istore_n (lv' := [(0, .int ((((((x - ((cUsh x 1) &&& 1431655765)) &&& 858993459) + ((cUsh (x - ((cUsh x 1) &&& 1431655765)) 2) &&& 858993459)) + (cUsh (((x - ((cUsh x 1) &&& 1431655765)) &&& 858993459) + ((cUsh (x - ((cUsh x 1) &&& 1431655765)) 2) &&& 858993459)) 4)) &&& 252645135) + (cUsh (((((x - ((cUsh x 1) &&& 1431655765)) &&& 858993459) + ((cUsh (x - ((cUsh x 1) &&& 1431655765)) 2) &&& 858993459)) + (cUsh (((x - ((cUsh x 1) &&& 1431655765)) &&& 858993459) + ((cUsh (x - ((cUsh x 1) &&& 1431655765)) 2) &&& 858993459)) 4)) &&& 252645135) 8)))]) X.1 X.2.1 zd_Ji_bitCount_40 rfl hl (by decide) rfl (fun ls hl => ?_)
  refine lv_iload_n X.1 X.2.1 zd_Ji_bitCount_41 rfl (lv_at hl 0 rfl) ?_
  refine lv_iload_n X.1 X.2.1 zd_Ji_bitCount_42 rfl (lv_at hl 0 rfl) ?_
  refine lv_bipush (v := nI 16) X.1 X.2.1 zd_Ji_bitCount_43 (by decide) ?_
  refine lv_iushr (v := cUsh ((((((x - ((cUsh x 1) &&& 1431655765)) &&& 858993459) + ((cUsh (x - ((cUsh x 1) &&& 1431655765)) 2) &&& 858993459)) + (cUsh (((x - ((cUsh x 1) &&& 1431655765)) &&& 858993459) + ((cUsh (x - ((cUsh x 1) &&& 1431655765)) 2) &&& 858993459)) 4)) &&& 252645135) + (cUsh (((((x - ((cUsh x 1) &&& 1431655765)) &&& 858993459) + ((cUsh (x - ((cUsh x 1) &&& 1431655765)) 2) &&& 858993459)) + (cUsh (((x - ((cUsh x 1) &&& 1431655765)) &&& 858993459) + ((cUsh (x - ((cUsh x 1) &&& 1431655765)) 2) &&& 858993459)) 4)) &&& 252645135) 8)) 16) X.1 X.2.1 zd_Ji_bitCount_45 rfl ?_
  refine lv_iadd X.1 X.2.1 zd_Ji_bitCount_46 ?_
  refine lv_istore_n (lv' := [(0, .int (((((((x - ((cUsh x 1) &&& 1431655765)) &&& 858993459) + ((cUsh (x - ((cUsh x 1) &&& 1431655765)) 2) &&& 858993459)) + (cUsh (((x - ((cUsh x 1) &&& 1431655765)) &&& 858993459) + ((cUsh (x - ((cUsh x 1) &&& 1431655765)) 2) &&& 858993459)) 4)) &&& 252645135) + (cUsh (((((x - ((cUsh x 1) &&& 1431655765)) &&& 858993459) + ((cUsh (x - ((cUsh x 1) &&& 1431655765)) 2) &&& 858993459)) + (cUsh (((x - ((cUsh x 1) &&& 1431655765)) &&& 858993459) + ((cUsh (x - ((cUsh x 1) &&& 1431655765)) 2) &&& 858993459)) 4)) &&& 252645135) 8)) + (cUsh ((((((x - ((cUsh x 1) &&& 1431655765)) &&& 858993459) + ((cUsh (x - ((cUsh x 1) &&& 1431655765)) 2) &&& 858993459)) + (cUsh (((x - ((cUsh x 1) &&& 1431655765)) &&& 858993459) + ((cUsh (x - ((cUsh x 1) &&& 1431655765)) 2) &&& 858993459)) 4)) &&& 252645135) + (cUsh (((((x - ((cUsh x 1) &&& 1431655765)) &&& 858993459) + ((cUsh (x - ((cUsh x 1) &&& 1431655765)) 2) &&& 858993459)) + (cUsh (((x - ((cUsh x 1) &&& 1431655765)) &&& 858993459) + ((cUsh (x - ((cUsh x 1) &&& 1431655765)) 2) &&& 858993459)) 4)) &&& 252645135) 8)) 16)))]) X.1 X.2.1 zd_Ji_bitCount_47 rfl hl (by decide) rfl (fun ls hl => ?_)
  refine lv_iload_n X.1 X.2.1 zd_Ji_bitCount_48 rfl (lv_at hl 0 rfl) ?_
  refine lv_bipush (v := nI 63) X.1 X.2.1 zd_Ji_bitCount_49 (by decide) ?_
  refine lv_iand X.1 X.2.1 zd_Ji_bitCount_51 ?_
  exact z_iret X.1 X.2.1 hr hlocks rfl rfl hP hS zd_Ji_bitCount_52

set_option maxHeartbeats 4000000 in
set_option maxRecDepth 100000 in
/-- Memory.forget: no name -/
theorem k_M_forget_n (l : Launch) (K : zK) (G : Nat → Nat) (A : Nat → Prop) (hD : ∀ σ, va_D A (cW K G σ)) (σ : cS) (t a : Nat) (ht : t < 20) (ha : a < 8) : zMet l K A zy_M_forget zws_M_forget 1 [.ref (G 3), .int (nI t), .int (nI a), .int (-1)] (cW K G σ) (cW K G (cForget3 σ t a)) none := by
  refine z_entry (by decide) (Nat.le_of_ble_eq_true rfl) ?_
  intro p e s m below meth c ls X hr hml hlocks hP hl
  have hS : va_S A s.heap s.heap [] := va_S.rf
  have hl : lv_has ls 5 [(0, .ref (G 3)), (1, .int (nI t)), (2, .int (nI a)), (3, .int (-1))] := hl
  refine lv_iload_n X.1 X.2.1 zd_M_forget_0 rfl (lv_at hl 1 rfl) ?_
  refine lv_iload_n X.1 X.2.1 zd_M_forget_1 rfl (lv_at hl 2 rfl) ?_
  refine z_callSi (As := [.int (nI t), .int (nI a)]) (rest := []) X hml (k_M_pair l K G A hD σ t a) (zk_M_37 X.2.2.2.1 (z_rm (by omega) (by decide))) hP hS rfl hl.1 rfl (Nat.le_of_ble_eq_true rfl) zd_M_forget_2 ⟨Nat.zero_le _, Nat.zero_le _⟩ (fun H locs hP hS => ?_)
  refine lv_istore (lv' := [(4, .int (nI (t * 8 + a))), (0, .ref (G 3)), (1, .int (nI t)), (2, .int (nI a)), (3, .int (-1))]) X.1 X.2.1 zd_M_forget_5 hl (by decide) rfl (fun ls hl => ?_)
  refine lv_aload_n X.1 X.2.1 zd_M_forget_7 rfl (lv_at hl 1 rfl) ?_
  refine lv_dup X.1 X.2.1 zd_M_forget_8 rfl ?_
  refine g_cM_nowDone X hP zd_M_forget_9 ?_
  refine lv_aload_n X.1 X.2.1 zd_M_forget_12 rfl (lv_at hl 1 rfl) ?_
  refine g_cM_doneSettings X hP zd_M_forget_13 ?_
  refine lv_iload X.1 X.2.1 zd_M_forget_16 (lv_at hl 0 rfl) ?_
  refine l_cM_doneSettings X hP (by omega) zd_M_forget_18 ?_
  refine z_callSi (As := [.int (cM_doneSettings σ (t * 8 + a))]) (rest := [.int (cM_nowDone σ), .ref (G 3)]) X hml (k_Ji_bitCount l K G A hD σ (cM_doneSettings σ (t * 8 + a))) (zk_M_45 X.2.2.2.1 (z_rm (by omega) (by decide))) hP hS rfl hl.1 rfl (Nat.le_of_ble_eq_true rfl) zd_M_forget_19 ⟨Nat.zero_le _, Nat.zero_le _⟩ (fun H locs hP hS => ?_)
  refine lv_isub X.1 X.2.1 zd_M_forget_22 ?_
  refine s_cM_nowDone X hD hP hS zd_M_forget_23 (fun H locs hP hS => ?_)
  have hP : va_P K.1 zcl (cW K G (p_cM_nowDone σ ((cM_nowDone σ) - (cBit (cM_doneSettings σ (t * 8 + a)))))) H := hP
  refine lv_aload_n X.1 X.2.1 zd_M_forget_26 rfl (lv_at hl 1 rfl) ?_
  refine g_cM_doneSettings X hP zd_M_forget_27 ?_
  refine lv_iload X.1 X.2.1 zd_M_forget_30 (lv_at hl 0 rfl) ?_
  refine lv_iconst (v := nI 0) X.1 X.2.1 zd_M_forget_32 (by decide) ?_
  refine s_cM_doneSettings X hD hP hS (by omega) zd_M_forget_33 (fun H locs hP hS => ?_)
  have hP : va_P K.1 zcl (cW K G (p_cM_doneSettings (p_cM_nowDone σ ((cM_nowDone σ) - (cBit (cM_doneSettings σ (t * 8 + a))))) (upd (cM_doneSettings σ) (t * 8 + a) (nI 0)))) H := hP
  refine lv_aload_n X.1 X.2.1 zd_M_forget_34 rfl (lv_at hl 1 rfl) ?_
  refine g_cM_passedSettings X hP zd_M_forget_35 ?_
  refine lv_iload X.1 X.2.1 zd_M_forget_38 (lv_at hl 0 rfl) ?_
  refine lv_iconst (v := nI 0) X.1 X.2.1 zd_M_forget_40 (by decide) ?_
  refine s_cM_passedSettings X hD hP hS (by omega) zd_M_forget_41 (fun H locs hP hS => ?_)
  have hP : va_P K.1 zcl (cW K G (p_cM_passedSettings (p_cM_doneSettings (p_cM_nowDone σ ((cM_nowDone σ) - (cBit (cM_doneSettings σ (t * 8 + a))))) (upd (cM_doneSettings σ) (t * 8 + a) (nI 0))) (upd (cM_passedSettings σ) (t * 8 + a) (nI 0)))) H := hP
  refine lv_iload_n X.1 X.2.1 zd_M_forget_42 rfl (lv_at hl 4 rfl) ?_
  refine lv_iconst (v := -1) X.1 X.2.1 zd_M_forget_43 (by decide) ?_
  refine lv_icmp_eq (tgt := 69) X.1 X.2.1 zd_M_forget_44 (by decide) (fun _ => ?_) (fun h9 => absurd rfl h9)
  exact z_vret X.1 X.2.1 hr hlocks rfl hP hS zd_M_forget_69

set_option maxHeartbeats 4000000 in
set_option maxRecDepth 100000 in
/-- Memory.forget: a name -/
theorem k_M_forget_q (l : Launch) (K : zK) (G : Nat → Nat) (A : Nat → Prop) (hD : ∀ σ, va_D A (cW K G σ)) (σ : cS) (t a q : Nat) (ht : t < 20) (ha : a < 8) (hq : q < 10) : zMet l K A zy_M_forget zws_M_forget 1 [.ref (G 3), .int (nI t), .int (nI a), .int (nI q)] (cW K G σ) (cW K G (cForgetQ σ t a q)) none := by
  refine z_entry (by decide) (Nat.le_of_ble_eq_true rfl) ?_
  intro p e s m below meth c ls X hr hml hlocks hP hl
  have hS : va_S A s.heap s.heap [] := va_S.rf
  have hl : lv_has ls 5 [(0, .ref (G 3)), (1, .int (nI t)), (2, .int (nI a)), (3, .int (nI q))] := hl
  refine lv_iload_n X.1 X.2.1 zd_M_forget_0 rfl (lv_at hl 1 rfl) ?_
  refine lv_iload_n X.1 X.2.1 zd_M_forget_1 rfl (lv_at hl 2 rfl) ?_
  refine z_callSi (As := [.int (nI t), .int (nI a)]) (rest := []) X hml (k_M_pair l K G A hD σ t a) (zk_M_37 X.2.2.2.1 (z_rm (by omega) (by decide))) hP hS rfl hl.1 rfl (Nat.le_of_ble_eq_true rfl) zd_M_forget_2 ⟨Nat.zero_le _, Nat.zero_le _⟩ (fun H locs hP hS => ?_)
  refine lv_istore (lv' := [(4, .int (nI (t * 8 + a))), (0, .ref (G 3)), (1, .int (nI t)), (2, .int (nI a)), (3, .int (nI q))]) X.1 X.2.1 zd_M_forget_5 hl (by decide) rfl (fun ls hl => ?_)
  refine lv_aload_n X.1 X.2.1 zd_M_forget_7 rfl (lv_at hl 1 rfl) ?_
  refine lv_dup X.1 X.2.1 zd_M_forget_8 rfl ?_
  refine g_cM_nowDone X hP zd_M_forget_9 ?_
  refine lv_aload_n X.1 X.2.1 zd_M_forget_12 rfl (lv_at hl 1 rfl) ?_
  refine g_cM_doneSettings X hP zd_M_forget_13 ?_
  refine lv_iload X.1 X.2.1 zd_M_forget_16 (lv_at hl 0 rfl) ?_
  refine l_cM_doneSettings X hP (by omega) zd_M_forget_18 ?_
  refine z_callSi (As := [.int (cM_doneSettings σ (t * 8 + a))]) (rest := [.int (cM_nowDone σ), .ref (G 3)]) X hml (k_Ji_bitCount l K G A hD σ (cM_doneSettings σ (t * 8 + a))) (zk_M_45 X.2.2.2.1 (z_rm (by omega) (by decide))) hP hS rfl hl.1 rfl (Nat.le_of_ble_eq_true rfl) zd_M_forget_19 ⟨Nat.zero_le _, Nat.zero_le _⟩ (fun H locs hP hS => ?_)
  refine lv_isub X.1 X.2.1 zd_M_forget_22 ?_
  refine s_cM_nowDone X hD hP hS zd_M_forget_23 (fun H locs hP hS => ?_)
  have hP : va_P K.1 zcl (cW K G (p_cM_nowDone σ ((cM_nowDone σ) - (cBit (cM_doneSettings σ (t * 8 + a)))))) H := hP
  refine lv_aload_n X.1 X.2.1 zd_M_forget_26 rfl (lv_at hl 1 rfl) ?_
  refine g_cM_doneSettings X hP zd_M_forget_27 ?_
  refine lv_iload X.1 X.2.1 zd_M_forget_30 (lv_at hl 0 rfl) ?_
  refine lv_iconst (v := nI 0) X.1 X.2.1 zd_M_forget_32 (by decide) ?_
  refine s_cM_doneSettings X hD hP hS (by omega) zd_M_forget_33 (fun H locs hP hS => ?_)
  have hP : va_P K.1 zcl (cW K G (p_cM_doneSettings (p_cM_nowDone σ ((cM_nowDone σ) - (cBit (cM_doneSettings σ (t * 8 + a))))) (upd (cM_doneSettings σ) (t * 8 + a) (nI 0)))) H := hP
  refine lv_aload_n X.1 X.2.1 zd_M_forget_34 rfl (lv_at hl 1 rfl) ?_
  refine g_cM_passedSettings X hP zd_M_forget_35 ?_
  refine lv_iload X.1 X.2.1 zd_M_forget_38 (lv_at hl 0 rfl) ?_
  refine lv_iconst (v := nI 0) X.1 X.2.1 zd_M_forget_40 (by decide) ?_
  refine s_cM_passedSettings X hD hP hS (by omega) zd_M_forget_41 (fun H locs hP hS => ?_)
  have hP : va_P K.1 zcl (cW K G (p_cM_passedSettings (p_cM_doneSettings (p_cM_nowDone σ ((cM_nowDone σ) - (cBit (cM_doneSettings σ (t * 8 + a))))) (upd (cM_doneSettings σ) (t * 8 + a) (nI 0))) (upd (cM_passedSettings σ) (t * 8 + a) (nI 0)))) H := hP
  refine lv_iload_n X.1 X.2.1 zd_M_forget_42 rfl (lv_at hl 4 rfl) ?_
  refine lv_iconst (v := -1) X.1 X.2.1 zd_M_forget_43 (by decide) ?_
  refine lv_icmp_eq (tgt := 69) X.1 X.2.1 zd_M_forget_44 (by decide) (fun h9 => absurd h9 (by intro h; have := congrArg Int32.toInt h; rw [nI_toInt (by omega)] at this; simp at this)) (fun _ => ?_)
  refine lv_aload_n X.1 X.2.1 zd_M_forget_47 rfl (lv_at hl 1 rfl) ?_
  refine lv_iload_n X.1 X.2.1 zd_M_forget_48 rfl (lv_at hl 2 rfl) ?_
  refine lv_iload_n X.1 X.2.1 zd_M_forget_49 rfl (lv_at hl 4 rfl) ?_
  refine z_callVi (As := [.int (nI t), .int (nI q)]) (rest := []) (q0 := 3) (ci := 2) X hml (k_M_makerOf l K G A hD (p_cM_passedSettings (p_cM_doneSettings (p_cM_nowDone σ ((cM_nowDone σ) - (cBit (cM_doneSettings σ (t * 8 + a))))) (upd (cM_doneSettings σ) (t * 8 + a) (nI 0))) (upd (cM_passedSettings σ) (t * 8 + a) (nI 0))) t q (by omega) (by omega)) (zk_M_51 X.2.2.2.1 (z_rm (by omega) (by decide))) rfl rfl rfl hP hS rfl hl.1 rfl (Nat.le_of_ble_eq_true rfl) zd_M_forget_50 ⟨Nat.zero_le _, Nat.zero_le _⟩ (fun H locs hP hS => ?_)
  refine lv_iload_n X.1 X.2.1 zd_M_forget_53 rfl (lv_at hl 3 rfl) ?_
  refine lv_icmp_ne (tgt := 69) X.1 X.2.1 zd_M_forget_54 (by decide) (fun c1 => ?_) (fun c1 => ?_)
  · exact z_vret X.1 X.2.1 hr hlocks (by unfold cForgetQ; rw [if_neg (show ¬ cM_makers σ (t * 10 + q) = nI a from c1)]; rfl) hP hS zd_M_forget_69
  · refine lv_aload_n X.1 X.2.1 zd_M_forget_57 rfl (lv_at hl 1 rfl) ?_
    refine g_cM_makers X hP zd_M_forget_58 ?_
    refine lv_iload_n X.1 X.2.1 zd_M_forget_61 rfl (lv_at hl 2 rfl) ?_
    refine lv_bipush (v := nI 10) X.1 X.2.1 zd_M_forget_62 (by decide) ?_
    refine lv_imul X.1 X.2.1 zd_M_forget_64 ?_
    refine z_top (pk_mul _ _) ?_
    refine lv_iload_n X.1 X.2.1 zd_M_forget_65 rfl (lv_at hl 4 rfl) ?_
    refine lv_iadd X.1 X.2.1 zd_M_forget_66 ?_
    refine z_top (nI_add _ _) ?_
    refine lv_iconst (v := -1) X.1 X.2.1 zd_M_forget_67 (by decide) ?_
    refine s_cM_makers X hD hP hS (by omega) zd_M_forget_68 (fun H locs hP hS => ?_)
    have hP : va_P K.1 zcl (cW K G (p_cM_makers (p_cM_passedSettings (p_cM_doneSettings (p_cM_nowDone σ ((cM_nowDone σ) - (cBit (cM_doneSettings σ (t * 8 + a))))) (upd (cM_doneSettings σ) (t * 8 + a) (nI 0))) (upd (cM_passedSettings σ) (t * 8 + a) (nI 0))) (upd (cM_makers σ) ((t * 10) + q) (-1)))) H := hP
    exact z_vret X.1 X.2.1 hr hlocks (by unfold cForgetQ; rw [if_pos (show cM_makers σ (t * 10 + q) = nI a from c1)]; rfl) hP hS zd_M_forget_69

theorem k_M_forget (l : Launch) (K : zK) (G : Nat → Nat) (A : Nat → Prop) (hD : ∀ σ, va_D A (cW K G σ)) (σ : cS) (t a : Nat) (nm : Int32) (ht : t < 20) (ha : a < 8) (hn : nm = -1 ∨ ∃ q, q < 10 ∧ nm = nI q) : zMet l K A zy_M_forget zws_M_forget 1 [.ref (G 3), .int (nI t), .int (nI a), .int nm] (cW K G σ) (cW K G (cForget σ t a nm)) none := by
  rcases hn with rfl | ⟨q, hq, rfl⟩
  · have h := k_M_forget_n l K G A hD σ t a ht ha
    rw [show cForget σ t a (-1) = cForget3 σ t a by simp [cForget]]
    exact h
  · have h := k_M_forget_q l K G A hD σ t a q ht ha hq
    have hne : ¬ nI q = -1 := by intro h; have := congrArg Int32.toInt h; rw [nI_toInt (by omega)] at this; simp at this
    rw [show cForget σ t a (nI q) = cForgetQ σ t a q by simp [cForget, hne, nI_clamp (show q < 2 ^ 31 by omega)]]
    exact h

set_option maxHeartbeats 4000000 in
set_option maxRecDepth 100000 in
/-- isAsked(x, y, z) -/
theorem k_W_isAsked (l : Launch) (K : zK) (G : Nat → Nat) (A : Nat → Prop) (hD : ∀ σ, va_D A (cW K G σ)) (σ : cS) (x y z : Int32) : zMet l K A zy_W_isAsked zws_W_isAsked 1 [.ref (G 0), .int x, .int y, .int z] (cW K G σ) (cW K G σ) (some (.int (nI (cAsked σ x y z)))) := by
  refine z_entry (by decide) (Nat.le_of_ble_eq_true rfl) ?_
  intro p e s m below meth c ls X hr hml hlocks hP hl
  have hS : va_S A s.heap s.heap [] := va_S.rf
  have hl : lv_has ls 4 [(0, .ref (G 0)), (1, .int x), (2, .int y), (3, .int z)] := hl
  refine lv_aload_n X.1 X.2.1 zd_W_isAsked_0 rfl (lv_at hl 0 rfl) ?_
  refine g_cW_targets X hP zd_W_isAsked_1 ?_
  refine lv_iload_n X.1 X.2.1 zd_W_isAsked_4 rfl (lv_at hl 1 rfl) ?_
  refine z_callVi (As := [.int x]) (rest := []) (q0 := 1) (ci := 0) X hml (k_T_has l K G A hD σ x) (zk_W_44 X.2.2.2.1 (z_rm (by omega) (by decide))) rfl rfl rfl hP hS rfl hl.1 rfl (Nat.le_of_ble_eq_true rfl) zd_W_isAsked_5 ⟨Nat.zero_le _, Nat.zero_le _⟩ (fun H locs hP hS => ?_)
  refine lv_if_eq (tgt := 36) X.1 X.2.1 zd_W_isAsked_8 (by decide) (fun c1 => ?_) (fun c1 => ?_)
  · rw [z_eq0 (cHas_lt _ _)] at c1
    refine lv_iconst (v := nI 0) X.1 X.2.1 zd_W_isAsked_36 (by decide) ?_
    exact z_zret X.1 X.2.1 hr hlocks (Or.inl rfl) (by simp [cAsked, *]) rfl hP hS zd_W_isAsked_37
  · rw [z_eq0 (cHas_lt _ _)] at c1
    refine lv_aload_n X.1 X.2.1 zd_W_isAsked_11 rfl (lv_at hl 0 rfl) ?_
    refine g_cW_aspects X hP zd_W_isAsked_12 ?_
    refine lv_iload_n X.1 X.2.1 zd_W_isAsked_15 rfl (lv_at hl 2 rfl) ?_
    refine z_callVi (As := [.int y]) (rest := []) (q0 := 2) (ci := 1) X hml (k_A_has l K G A hD σ y) (zk_W_73 X.2.2.2.1 (z_rm (by omega) (by decide))) rfl rfl rfl hP hS rfl hl.1 rfl (Nat.le_of_ble_eq_true rfl) zd_W_isAsked_16 ⟨Nat.zero_le _, Nat.zero_le _⟩ (fun H locs hP hS => ?_)
    refine lv_if_eq (tgt := 36) X.1 X.2.1 zd_W_isAsked_19 (by decide) (fun c2 => ?_) (fun c2 => ?_)
    · rw [z_eq0 (cHas_lt _ _)] at c2
      refine lv_iconst (v := nI 0) X.1 X.2.1 zd_W_isAsked_36 (by decide) ?_
      exact z_zret X.1 X.2.1 hr hlocks (Or.inl rfl) (by simp [cAsked, *]) rfl hP hS zd_W_isAsked_37
    · rw [z_eq0 (cHas_lt _ _)] at c2
      refine lv_iload_n X.1 X.2.1 zd_W_isAsked_22 rfl (lv_at hl 3 rfl) ?_
      refine lv_if_lt (tgt := 36) X.1 X.2.1 zd_W_isAsked_23 (by decide) (fun c3 => ?_) (fun c3 => ?_)
      · refine lv_iconst (v := nI 0) X.1 X.2.1 zd_W_isAsked_36 (by decide) ?_
        exact z_zret X.1 X.2.1 hr hlocks (Or.inl rfl) (by simp [cAsked, *]) rfl hP hS zd_W_isAsked_37
      · refine lv_iload_n X.1 X.2.1 zd_W_isAsked_26 rfl (lv_at hl 3 rfl) ?_
        refine lv_bipush (v := nI 16) X.1 X.2.1 zd_W_isAsked_27 (by decide) ?_
        refine lv_icmp_ge (tgt := 36) X.1 X.2.1 zd_W_isAsked_29 (by decide) (fun c4 => ?_) (fun c4 => ?_)
        · refine lv_iconst (v := nI 0) X.1 X.2.1 zd_W_isAsked_36 (by decide) ?_
          exact z_zret X.1 X.2.1 hr hlocks (Or.inl rfl) (by simp [cAsked, *]) rfl hP hS zd_W_isAsked_37
        · refine lv_iconst (v := nI 1) X.1 X.2.1 zd_W_isAsked_32 (by decide) ?_
          refine lv_goto (tgt := 37) X.1 X.2.1 zd_W_isAsked_33 (by decide) ?_
          exact z_zret X.1 X.2.1 hr hlocks (Or.inr rfl) (by simp [cAsked, *]) rfl hP hS zd_W_isAsked_37

set_option maxHeartbeats 4000000 in
set_option maxRecDepth 100000 in
/-- lengthAlong(t, a, z) -/
theorem k_W_lengthAlong (l : Launch) (K : zK) (G : Nat → Nat) (A : Nat → Prop) (hD : ∀ σ, va_D A (cW K G σ)) (σ : cS) (t a z : Nat) (ht : t < 20) (ha : a < 8) (hz : z < 3) : zMet l K A zy_W_lengthAlong zws_W_lengthAlong 1 [.ref (G 0), .int (nI t), .int (nI a), .int (nI z)] (cW K G σ) (cW K G σ) (some (.int (nI (cLen σ t a z)))) := by
  refine z_entry (by decide) (Nat.le_of_ble_eq_true rfl) ?_
  intro p e s m below meth c ls X hr hml hlocks hP hl
  have hS : va_S A s.heap s.heap [] := va_S.rf
  have hl : lv_has ls 4 [(0, .ref (G 0)), (1, .int (nI t)), (2, .int (nI a)), (3, .int (nI z))] := hl
  refine lv_aload_n X.1 X.2.1 zd_W_lengthAlong_0 rfl (lv_at hl 0 rfl) ?_
  refine g_cW_aspects X hP zd_W_lengthAlong_1 ?_
  refine lv_iload_n X.1 X.2.1 zd_W_lengthAlong_4 rfl (lv_at hl 2 rfl) ?_
  refine lv_iload_n X.1 X.2.1 zd_W_lengthAlong_5 rfl (lv_at hl 3 rfl) ?_
  refine z_callVi (As := [.int (nI a), .int (nI z)]) (rest := []) (q0 := 2) (ci := 1) X hml (k_A_goesAlong l K G A hD σ a z (by omega)) (zk_W_161 X.2.2.2.1 (z_rm (by omega) (by decide))) rfl rfl rfl hP hS rfl hl.1 rfl (Nat.le_of_ble_eq_true rfl) zd_W_lengthAlong_6 ⟨Nat.zero_le _, Nat.zero_le _⟩ (fun H locs hP hS => ?_)
  refine lv_if_eq (tgt := 24) X.1 X.2.1 zd_W_lengthAlong_9 (by decide) (fun c1 => ?_) (fun c1 => ?_)
  · rw [z_eq0 (cLead_lt _ _)] at c1
    refine lv_iconst (v := nI 0) X.1 X.2.1 zd_W_lengthAlong_24 (by decide) ?_
    exact z_iret X.1 X.2.1 hr hlocks (by simp [cLen, *]) rfl hP hS zd_W_lengthAlong_25
  · rw [z_eq0 (cLead_lt _ _)] at c1
    refine lv_aload_n X.1 X.2.1 zd_W_lengthAlong_12 rfl (lv_at hl 0 rfl) ?_
    refine g_cW_targets X hP zd_W_lengthAlong_13 ?_
    refine lv_iload_n X.1 X.2.1 zd_W_lengthAlong_16 rfl (lv_at hl 1 rfl) ?_
    refine lv_iload_n X.1 X.2.1 zd_W_lengthAlong_17 rfl (lv_at hl 3 rfl) ?_
    refine z_callVi (As := [.int (nI t), .int (nI z)]) (rest := []) (q0 := 1) (ci := 0) X hml (k_T_rowLength l K G A hD σ t z (by omega) (by omega)) (zk_W_164 X.2.2.2.1 (z_rm (by omega) (by decide))) rfl rfl rfl hP hS rfl hl.1 rfl (Nat.le_of_ble_eq_true rfl) zd_W_lengthAlong_18 ⟨Nat.zero_le _, Nat.zero_le _⟩ (fun H locs hP hS => ?_)
    refine lv_goto (tgt := 25) X.1 X.2.1 zd_W_lengthAlong_21 (by decide) ?_
    exact z_iret X.1 X.2.1 hr hlocks (by simp [cLen, *]) rfl hP hS zd_W_lengthAlong_25

set_option maxHeartbeats 4000000 in
set_option maxRecDepth 100000 in
/-- joinPart, kind 0 -/
theorem k_W_joinPart_0 (l : Launch) (K : zK) (G : Nat → Nat) (A : Nat → Prop) (hD : ∀ σ, va_D A (cW K G σ)) (σ : cS) (x : Int64) (t a k : Nat) (ht : t < 20) (ha : a < 8) (hk : k < 16) : zMet l K A zy_W_joinPart zws_W_joinPart 2 [.ref (G 0), .int (nI 0), .long x, .int (nI t), .int (nI a), .int (nI k)] (cW K G σ) (cW K G σ) (some (.long (cJoinPart σ 0 x t a k))) := by
  refine z_entry (by decide) (Nat.le_of_ble_eq_true rfl) ?_
  intro p e s m below meth c ls X hr hml hlocks hP hl
  have hS : va_S A s.heap s.heap [] := va_S.rf
  have hl : lv_has ls 9 [(0, .ref (G 0)), (1, .int (nI 0)), (2, .long x), (4, .int (nI t)), (5, .int (nI a)), (6, .int (nI k))] := hl
  refine lv_aload_n X.1 X.2.1 zd_W_joinPart_0 rfl (lv_at hl 0 rfl) ?_
  refine g_cW_memory X hP zd_W_joinPart_1 ?_
  refine lv_iload X.1 X.2.1 zd_W_joinPart_4 (lv_at hl 3 rfl) ?_
  refine lv_iload X.1 X.2.1 zd_W_joinPart_6 (lv_at hl 4 rfl) ?_
  refine lv_iload X.1 X.2.1 zd_W_joinPart_8 (lv_at hl 5 rfl) ?_
  refine z_callVi (As := [.int (nI t), .int (nI a), .int (nI k)]) (rest := []) (q0 := 3) (ci := 2) X hml (k_M_known l K G A hD σ t a k (by omega) (by omega) (by omega)) (zk_W_98 X.2.2.2.1 (z_rm (by omega) (by decide))) rfl rfl rfl hP hS rfl hl.1 rfl (Nat.le_of_ble_eq_true rfl) zd_W_joinPart_10 ⟨Nat.zero_le _, Nat.zero_le _⟩ (fun H locs hP hS => ?_)
  refine lv_iconst (v := nI 1) X.1 X.2.1 zd_W_joinPart_13 (by decide) ?_
  refine lv_icmp_eq (tgt := 19) X.1 X.2.1 zd_W_joinPart_14 (by decide) (fun c1 => ?_) (fun c1 => ?_)
  · refine lv_aload_n X.1 X.2.1 zd_W_joinPart_19 rfl (lv_at hl 0 rfl) ?_
    refine g_cW_memory X hP zd_W_joinPart_20 ?_
    refine lv_iload X.1 X.2.1 zd_W_joinPart_23 (lv_at hl 3 rfl) ?_
    refine lv_iload X.1 X.2.1 zd_W_joinPart_25 (lv_at hl 4 rfl) ?_
    refine lv_iload X.1 X.2.1 zd_W_joinPart_27 (lv_at hl 5 rfl) ?_
    refine z_callVl (As := [.int (nI t), .int (nI a), .int (nI k)]) (rest := []) (q0 := 3) (ci := 2) X hml (k_M_resultOf l K G A hD σ t a k (by omega) (by omega) (by omega)) (zk_W_114 X.2.2.2.1 (z_rm (by omega) (by decide))) rfl rfl rfl hP hS rfl hl.1 rfl (Nat.le_of_ble_eq_true rfl) zd_W_joinPart_29 ⟨Nat.zero_le _, Nat.zero_le _⟩ (fun H locs hP hS => ?_)
    refine lv_lstore (lv' := [(7, .long (cM_results σ ((t * 8 + a) * 16 + k))), (0, .ref (G 0)), (1, .int (nI 0)), (2, .long x), (4, .int (nI t)), (5, .int (nI a)), (6, .int (nI k))]) X.1 X.2.1 zd_W_joinPart_32 hl (by decide) rfl (fun ls hl => ?_)
    refine lv_iload_n X.1 X.2.1 zd_W_joinPart_34 rfl (lv_at hl 2 rfl) ?_
    refine lv_lookup (off := 41) (tgt := 76) X.1 X.2.1 zd_W_joinPart_35 (by decide) (by decide) (by decide) ?_
    refine lv_lload_n X.1 X.2.1 zd_W_joinPart_76 rfl (lv_at hl 3 rfl) ?_
    refine lv_lload X.1 X.2.1 zd_W_joinPart_77 (lv_at hl 0 rfl) ?_
    refine lv_ladd X.1 X.2.1 zd_W_joinPart_79 ?_
    exact z_lret X.1 X.2.1 hr hlocks (by simp [cJoinPart, cJoin, cMax, *]) rfl hP hS zd_W_joinPart_80
  · refine lv_lload_n X.1 X.2.1 zd_W_joinPart_17 rfl (lv_at hl 2 rfl) ?_
    exact z_lret X.1 X.2.1 hr hlocks (by simp [cJoinPart, cJoin, cMax, *]) rfl hP hS zd_W_joinPart_18

set_option maxHeartbeats 4000000 in
set_option maxRecDepth 100000 in
/-- joinPart, kind 1 -/
theorem k_W_joinPart_1 (l : Launch) (K : zK) (G : Nat → Nat) (A : Nat → Prop) (hD : ∀ σ, va_D A (cW K G σ)) (σ : cS) (x : Int64) (t a k : Nat) (ht : t < 20) (ha : a < 8) (hk : k < 16) : zMet l K A zy_W_joinPart zws_W_joinPart 2 [.ref (G 0), .int (nI 1), .long x, .int (nI t), .int (nI a), .int (nI k)] (cW K G σ) (cW K G σ) (some (.long (cJoinPart σ 1 x t a k))) := by
  refine z_entry (by decide) (Nat.le_of_ble_eq_true rfl) ?_
  intro p e s m below meth c ls X hr hml hlocks hP hl
  have hS : va_S A s.heap s.heap [] := va_S.rf
  have hl : lv_has ls 9 [(0, .ref (G 0)), (1, .int (nI 1)), (2, .long x), (4, .int (nI t)), (5, .int (nI a)), (6, .int (nI k))] := hl
  refine lv_aload_n X.1 X.2.1 zd_W_joinPart_0 rfl (lv_at hl 0 rfl) ?_
  refine g_cW_memory X hP zd_W_joinPart_1 ?_
  refine lv_iload X.1 X.2.1 zd_W_joinPart_4 (lv_at hl 3 rfl) ?_
  refine lv_iload X.1 X.2.1 zd_W_joinPart_6 (lv_at hl 4 rfl) ?_
  refine lv_iload X.1 X.2.1 zd_W_joinPart_8 (lv_at hl 5 rfl) ?_
  refine z_callVi (As := [.int (nI t), .int (nI a), .int (nI k)]) (rest := []) (q0 := 3) (ci := 2) X hml (k_M_known l K G A hD σ t a k (by omega) (by omega) (by omega)) (zk_W_98 X.2.2.2.1 (z_rm (by omega) (by decide))) rfl rfl rfl hP hS rfl hl.1 rfl (Nat.le_of_ble_eq_true rfl) zd_W_joinPart_10 ⟨Nat.zero_le _, Nat.zero_le _⟩ (fun H locs hP hS => ?_)
  refine lv_iconst (v := nI 1) X.1 X.2.1 zd_W_joinPart_13 (by decide) ?_
  refine lv_icmp_eq (tgt := 19) X.1 X.2.1 zd_W_joinPart_14 (by decide) (fun c1 => ?_) (fun c1 => ?_)
  · refine lv_aload_n X.1 X.2.1 zd_W_joinPart_19 rfl (lv_at hl 0 rfl) ?_
    refine g_cW_memory X hP zd_W_joinPart_20 ?_
    refine lv_iload X.1 X.2.1 zd_W_joinPart_23 (lv_at hl 3 rfl) ?_
    refine lv_iload X.1 X.2.1 zd_W_joinPart_25 (lv_at hl 4 rfl) ?_
    refine lv_iload X.1 X.2.1 zd_W_joinPart_27 (lv_at hl 5 rfl) ?_
    refine z_callVl (As := [.int (nI t), .int (nI a), .int (nI k)]) (rest := []) (q0 := 3) (ci := 2) X hml (k_M_resultOf l K G A hD σ t a k (by omega) (by omega) (by omega)) (zk_W_114 X.2.2.2.1 (z_rm (by omega) (by decide))) rfl rfl rfl hP hS rfl hl.1 rfl (Nat.le_of_ble_eq_true rfl) zd_W_joinPart_29 ⟨Nat.zero_le _, Nat.zero_le _⟩ (fun H locs hP hS => ?_)
    refine lv_lstore (lv' := [(7, .long (cM_results σ ((t * 8 + a) * 16 + k))), (0, .ref (G 0)), (1, .int (nI 1)), (2, .long x), (4, .int (nI t)), (5, .int (nI a)), (6, .int (nI k))]) X.1 X.2.1 zd_W_joinPart_32 hl (by decide) rfl (fun ls hl => ?_)
    refine lv_iload_n X.1 X.2.1 zd_W_joinPart_34 rfl (lv_at hl 2 rfl) ?_
    refine lv_lookup (off := 25) (tgt := 60) X.1 X.2.1 zd_W_joinPart_35 (by decide) (by decide) (by decide) ?_
    refine lv_lload_n X.1 X.2.1 zd_W_joinPart_60 rfl (lv_at hl 3 rfl) ?_
    refine lv_lload X.1 X.2.1 zd_W_joinPart_61 (lv_at hl 0 rfl) ?_
    refine va_mmax_long X.1 X.2.1 (hml.trans hl.1.symm) X.2.2.1 (X.2.2.2.1 _ zw_356) (X.2.2.2.1 _ zw_357) (X.2.2.2.1 _ zw_8) (X.2.2.2.1 _ zw_358) (Nat.le_of_ble_eq_true rfl) (Nat.le_of_ble_eq_true rfl) (Nat.zero_le _) (Nat.zero_le _) zd_W_joinPart_63 ?_
    exact z_lret X.1 X.2.1 hr hlocks (by simp [cJoinPart, cJoin, cMax, *]) rfl hP hS zd_W_joinPart_66
  · refine lv_lload_n X.1 X.2.1 zd_W_joinPart_17 rfl (lv_at hl 2 rfl) ?_
    exact z_lret X.1 X.2.1 hr hlocks (by simp [cJoinPart, cJoin, cMax, *]) rfl hP hS zd_W_joinPart_18

set_option maxHeartbeats 4000000 in
set_option maxRecDepth 100000 in
/-- joinPart, kind 2 -/
theorem k_W_joinPart_2 (l : Launch) (K : zK) (G : Nat → Nat) (A : Nat → Prop) (hD : ∀ σ, va_D A (cW K G σ)) (σ : cS) (x : Int64) (t a k : Nat) (ht : t < 20) (ha : a < 8) (hk : k < 16) : zMet l K A zy_W_joinPart zws_W_joinPart 2 [.ref (G 0), .int (nI 2), .long x, .int (nI t), .int (nI a), .int (nI k)] (cW K G σ) (cW K G σ) (some (.long (cJoinPart σ 2 x t a k))) := by
  refine z_entry (by decide) (Nat.le_of_ble_eq_true rfl) ?_
  intro p e s m below meth c ls X hr hml hlocks hP hl
  have hS : va_S A s.heap s.heap [] := va_S.rf
  have hl : lv_has ls 9 [(0, .ref (G 0)), (1, .int (nI 2)), (2, .long x), (4, .int (nI t)), (5, .int (nI a)), (6, .int (nI k))] := hl
  refine lv_aload_n X.1 X.2.1 zd_W_joinPart_0 rfl (lv_at hl 0 rfl) ?_
  refine g_cW_memory X hP zd_W_joinPart_1 ?_
  refine lv_iload X.1 X.2.1 zd_W_joinPart_4 (lv_at hl 3 rfl) ?_
  refine lv_iload X.1 X.2.1 zd_W_joinPart_6 (lv_at hl 4 rfl) ?_
  refine lv_iload X.1 X.2.1 zd_W_joinPart_8 (lv_at hl 5 rfl) ?_
  refine z_callVi (As := [.int (nI t), .int (nI a), .int (nI k)]) (rest := []) (q0 := 3) (ci := 2) X hml (k_M_known l K G A hD σ t a k (by omega) (by omega) (by omega)) (zk_W_98 X.2.2.2.1 (z_rm (by omega) (by decide))) rfl rfl rfl hP hS rfl hl.1 rfl (Nat.le_of_ble_eq_true rfl) zd_W_joinPart_10 ⟨Nat.zero_le _, Nat.zero_le _⟩ (fun H locs hP hS => ?_)
  refine lv_iconst (v := nI 1) X.1 X.2.1 zd_W_joinPart_13 (by decide) ?_
  refine lv_icmp_eq (tgt := 19) X.1 X.2.1 zd_W_joinPart_14 (by decide) (fun c1 => ?_) (fun c1 => ?_)
  · refine lv_aload_n X.1 X.2.1 zd_W_joinPart_19 rfl (lv_at hl 0 rfl) ?_
    refine g_cW_memory X hP zd_W_joinPart_20 ?_
    refine lv_iload X.1 X.2.1 zd_W_joinPart_23 (lv_at hl 3 rfl) ?_
    refine lv_iload X.1 X.2.1 zd_W_joinPart_25 (lv_at hl 4 rfl) ?_
    refine lv_iload X.1 X.2.1 zd_W_joinPart_27 (lv_at hl 5 rfl) ?_
    refine z_callVl (As := [.int (nI t), .int (nI a), .int (nI k)]) (rest := []) (q0 := 3) (ci := 2) X hml (k_M_resultOf l K G A hD σ t a k (by omega) (by omega) (by omega)) (zk_W_114 X.2.2.2.1 (z_rm (by omega) (by decide))) rfl rfl rfl hP hS rfl hl.1 rfl (Nat.le_of_ble_eq_true rfl) zd_W_joinPart_29 ⟨Nat.zero_le _, Nat.zero_le _⟩ (fun H locs hP hS => ?_)
    refine lv_lstore (lv' := [(7, .long (cM_results σ ((t * 8 + a) * 16 + k))), (0, .ref (G 0)), (1, .int (nI 2)), (2, .long x), (4, .int (nI t)), (5, .int (nI a)), (6, .int (nI k))]) X.1 X.2.1 zd_W_joinPart_32 hl (by decide) rfl (fun ls hl => ?_)
    refine lv_iload_n X.1 X.2.1 zd_W_joinPart_34 rfl (lv_at hl 2 rfl) ?_
    refine lv_lookup (off := 32) (tgt := 67) X.1 X.2.1 zd_W_joinPart_35 (by decide) (by decide) (by decide) ?_
    refine lv_ldc2 (v := 31) X.1 X.2.1 X.2.2.1 (X.2.2.2.1 _ zw_359) zd_W_joinPart_67 ?_
    refine lv_lload_n X.1 X.2.1 zd_W_joinPart_70 rfl (lv_at hl 3 rfl) ?_
    refine lv_lmul X.1 X.2.1 zd_W_joinPart_71 ?_
    refine lv_lload X.1 X.2.1 zd_W_joinPart_72 (lv_at hl 0 rfl) ?_
    refine lv_ladd X.1 X.2.1 zd_W_joinPart_74 ?_
    exact z_lret X.1 X.2.1 hr hlocks (by simp [cJoinPart, cJoin, cMax, *]) rfl hP hS zd_W_joinPart_75
  · refine lv_lload_n X.1 X.2.1 zd_W_joinPart_17 rfl (lv_at hl 2 rfl) ?_
    exact z_lret X.1 X.2.1 hr hlocks (by simp [cJoinPart, cJoin, cMax, *]) rfl hP hS zd_W_joinPart_18

set_option maxHeartbeats 4000000 in
set_option maxRecDepth 100000 in
/-- joinPart, kind 3 -/
theorem k_W_joinPart_3 (l : Launch) (K : zK) (G : Nat → Nat) (A : Nat → Prop) (hD : ∀ σ, va_D A (cW K G σ)) (σ : cS) (x : Int64) (t a k : Nat) (ht : t < 20) (ha : a < 8) (hk : k < 16) : zMet l K A zy_W_joinPart zws_W_joinPart 2 [.ref (G 0), .int (nI 3), .long x, .int (nI t), .int (nI a), .int (nI k)] (cW K G σ) (cW K G σ) (some (.long (cJoinPart σ 3 x t a k))) := by
  refine z_entry (by decide) (Nat.le_of_ble_eq_true rfl) ?_
  intro p e s m below meth c ls X hr hml hlocks hP hl
  have hS : va_S A s.heap s.heap [] := va_S.rf
  have hl : lv_has ls 9 [(0, .ref (G 0)), (1, .int (nI 3)), (2, .long x), (4, .int (nI t)), (5, .int (nI a)), (6, .int (nI k))] := hl
  refine lv_aload_n X.1 X.2.1 zd_W_joinPart_0 rfl (lv_at hl 0 rfl) ?_
  refine g_cW_memory X hP zd_W_joinPart_1 ?_
  refine lv_iload X.1 X.2.1 zd_W_joinPart_4 (lv_at hl 3 rfl) ?_
  refine lv_iload X.1 X.2.1 zd_W_joinPart_6 (lv_at hl 4 rfl) ?_
  refine lv_iload X.1 X.2.1 zd_W_joinPart_8 (lv_at hl 5 rfl) ?_
  refine z_callVi (As := [.int (nI t), .int (nI a), .int (nI k)]) (rest := []) (q0 := 3) (ci := 2) X hml (k_M_known l K G A hD σ t a k (by omega) (by omega) (by omega)) (zk_W_98 X.2.2.2.1 (z_rm (by omega) (by decide))) rfl rfl rfl hP hS rfl hl.1 rfl (Nat.le_of_ble_eq_true rfl) zd_W_joinPart_10 ⟨Nat.zero_le _, Nat.zero_le _⟩ (fun H locs hP hS => ?_)
  refine lv_iconst (v := nI 1) X.1 X.2.1 zd_W_joinPart_13 (by decide) ?_
  refine lv_icmp_eq (tgt := 19) X.1 X.2.1 zd_W_joinPart_14 (by decide) (fun c1 => ?_) (fun c1 => ?_)
  · refine lv_aload_n X.1 X.2.1 zd_W_joinPart_19 rfl (lv_at hl 0 rfl) ?_
    refine g_cW_memory X hP zd_W_joinPart_20 ?_
    refine lv_iload X.1 X.2.1 zd_W_joinPart_23 (lv_at hl 3 rfl) ?_
    refine lv_iload X.1 X.2.1 zd_W_joinPart_25 (lv_at hl 4 rfl) ?_
    refine lv_iload X.1 X.2.1 zd_W_joinPart_27 (lv_at hl 5 rfl) ?_
    refine z_callVl (As := [.int (nI t), .int (nI a), .int (nI k)]) (rest := []) (q0 := 3) (ci := 2) X hml (k_M_resultOf l K G A hD σ t a k (by omega) (by omega) (by omega)) (zk_W_114 X.2.2.2.1 (z_rm (by omega) (by decide))) rfl rfl rfl hP hS rfl hl.1 rfl (Nat.le_of_ble_eq_true rfl) zd_W_joinPart_29 ⟨Nat.zero_le _, Nat.zero_le _⟩ (fun H locs hP hS => ?_)
    refine lv_lstore (lv' := [(7, .long (cM_results σ ((t * 8 + a) * 16 + k))), (0, .ref (G 0)), (1, .int (nI 3)), (2, .long x), (4, .int (nI t)), (5, .int (nI a)), (6, .int (nI k))]) X.1 X.2.1 zd_W_joinPart_32 hl (by decide) rfl (fun ls hl => ?_)
    refine lv_iload_n X.1 X.2.1 zd_W_joinPart_34 rfl (lv_at hl 2 rfl) ?_
    refine lv_lookup (off := 41) (tgt := 76) X.1 X.2.1 zd_W_joinPart_35 (by decide) (by decide) (by decide) ?_
    refine lv_lload_n X.1 X.2.1 zd_W_joinPart_76 rfl (lv_at hl 3 rfl) ?_
    refine lv_lload X.1 X.2.1 zd_W_joinPart_77 (lv_at hl 0 rfl) ?_
    refine lv_ladd X.1 X.2.1 zd_W_joinPart_79 ?_
    exact z_lret X.1 X.2.1 hr hlocks (by simp [cJoinPart, cJoin, cMax, *]) rfl hP hS zd_W_joinPart_80
  · refine lv_lload_n X.1 X.2.1 zd_W_joinPart_17 rfl (lv_at hl 2 rfl) ?_
    exact z_lret X.1 X.2.1 hr hlocks (by simp [cJoinPart, cJoin, cMax, *]) rfl hP hS zd_W_joinPart_18

theorem k_W_joinPart (l : Launch) (K : zK) (G : Nat → Nat) (A : Nat → Prop) (hD : ∀ σ, va_D A (cW K G σ)) (σ : cS) (kd : Nat) (x : Int64) (t a k : Nat) (hkd : kd ≤ 3) (ht : t < 20) (ha : a < 8) (hk : k < 16) : zMet l K A zy_W_joinPart zws_W_joinPart 2 [.ref (G 0), .int (nI kd), .long x, .int (nI t), .int (nI a), .int (nI k)] (cW K G σ) (cW K G σ) (some (.long (cJoinPart σ kd x t a k))) := by
  rcases (show kd = 0 ∨ kd = 1 ∨ kd = 2 ∨ kd = 3 by omega) with rfl | rfl | rfl | rfl
  · exact k_W_joinPart_0 l K G A hD σ x t a k ht ha hk
  · exact k_W_joinPart_1 l K G A hD σ x t a k ht ha hk
  · exact k_W_joinPart_2 l K G A hD σ x t a k ht ha hk
  · exact k_W_joinPart_3 l K G A hD σ x t a k ht ha hk
end
section
/-! contracts of the class's helpers with loops that only read (by program: wip/gen/wloops.py) -/
set_option maxHeartbeats 4000000 in
set_option maxRecDepth 100000 in
/-- lacksProvider's loop -/
theorem q_W_lacksProvider {p : Program} {e : Env} {s : State} {m : MethodId} {args : Array Value} {below : List Frame} {meth : Method} {c : Code} (l : Launch) (K : zK) (G : Nat → Nat) (A : Nat → Prop) (hD : ∀ σ, va_D A (cW K G σ)) (X : zFx K zR_W zb_W_lacksProvider p s m args c) (hr : meth.sig.returnType = (some .boolean)) (hml : c.maxLocals = 7) (hlocks : meth.locks = false) (σ : cS) (t a k : Nat) (ht : t < 20) (ha : a < 8) (hk : k < 16) (hB : cB σ) : ∀ (j i : Nat), i + j = cA_needCounts σ a → ∀ (H : Heap) (locs : List Loc) (ls : Array Slot), va_P K.1 zcl (cW K G σ) H → va_S A s.heap H locs → lv_has ls 7 [(5, .int (nI i)), (4, .int (cOffer σ t a k i)), (0, .ref (G 0)), (1, .int (nI t)), (2, .int (nI a)), (3, .int (nI k))] → W p l e (zrm 2) s m args below meth c H locs 0 0 (MQ below (zPost K A (cW K G σ) (some (.int (nI (cLacks σ t a k))))) args s 0 0 A) (F0 m 13 ls []) := by
  intro j
  induction j with
  | zero =>
    intro i hi H locs ls hP hS hl
    have hB1 := hB.2.2.2.2.2.1 (a * 3 + i)
    have hB2 := hB.2.2.2.2.2.2.1 a
    have hB3 := hB.2.2.2.2.2.2.2.1 a
    refine lv_iload X.1 X.2.1 zd_W_lacksProvider_13 (lv_at hl 0 rfl) ?_
    refine lv_aload_n X.1 X.2.1 zd_W_lacksProvider_15 rfl (lv_at hl 2 rfl) ?_
    refine g_cW_aspects X hP zd_W_lacksProvider_16 ?_
    refine lv_iload_n X.1 X.2.1 zd_W_lacksProvider_19 rfl (lv_at hl 4 rfl) ?_
    refine z_callVi (As := [.int (nI a)]) (rest := [.int (nI i)]) (q0 := 2) (ci := 1) X hml (k_A_needCount l K G A hD σ a (by omega)) (zk_W_78 X.2.2.2.1 (z_rm (by omega) (by decide))) rfl rfl rfl hP hS rfl hl.1 rfl (Nat.le_of_ble_eq_true rfl) zd_W_lacksProvider_20 ⟨Nat.zero_le _, Nat.zero_le _⟩ (fun H locs hP hS => ?_)
    refine lv_icmp_ge (tgt := 73) X.1 X.2.1 zd_W_lacksProvider_23 (by decide) (fun _ => ?_) (fun h9 => absurd (by rw [nI_leI (by omega) (by omega)]; omega) h9)
    refine lv_aload_n X.1 X.2.1 zd_W_lacksProvider_73 rfl (lv_at hl 2 rfl) ?_
    refine g_cW_aspects X hP zd_W_lacksProvider_74 ?_
    refine lv_iload_n X.1 X.2.1 zd_W_lacksProvider_77 rfl (lv_at hl 4 rfl) ?_
    refine z_callVi (As := [.int (nI a)]) (rest := []) (q0 := 2) (ci := 1) X hml (k_A_wantsOf l K G A hD σ a (by omega)) (zk_W_173 X.2.2.2.1 (z_rm (by omega) (by decide))) rfl rfl rfl hP hS rfl hl.1 rfl (Nat.le_of_ble_eq_true rfl) zd_W_lacksProvider_78 ⟨Nat.zero_le _, Nat.zero_le _⟩ (fun H locs hP hS => ?_)
    refine lv_iload X.1 X.2.1 zd_W_lacksProvider_81 (lv_at hl 1 rfl) ?_
    refine lv_iconst (v := -1) X.1 X.2.1 zd_W_lacksProvider_83 (by decide) ?_
    refine lv_ixor X.1 X.2.1 zd_W_lacksProvider_84 ?_
    refine lv_iand X.1 X.2.1 zd_W_lacksProvider_85 ?_
    refine lv_if_eq (tgt := 93) X.1 X.2.1 zd_W_lacksProvider_86 (by decide) (fun c1 => ?_) (fun c1 => ?_)
    · refine lv_iconst (v := nI 0) X.1 X.2.1 zd_W_lacksProvider_93 (by decide) ?_
      exact z_zret X.1 X.2.1 hr hlocks (Or.inl rfl) (by rw [cLacks, show cA_needCounts σ a = i by omega, if_pos c1]) rfl hP hS zd_W_lacksProvider_94
    · refine lv_iconst (v := nI 1) X.1 X.2.1 zd_W_lacksProvider_89 (by decide) ?_
      refine lv_goto (tgt := 94) X.1 X.2.1 zd_W_lacksProvider_90 (by decide) ?_
      exact z_zret X.1 X.2.1 hr hlocks (Or.inr rfl) (by rw [cLacks, show cA_needCounts σ a = i by omega, if_neg c1]) rfl hP hS zd_W_lacksProvider_94
  | succ j ih =>
    intro i hi H locs ls hP hS hl
    have hB1 := hB.2.2.2.2.2.1 (a * 3 + i)
    have hB2 := hB.2.2.2.2.2.2.1 a
    have hB3 := hB.2.2.2.2.2.2.2.1 a
    refine lv_iload X.1 X.2.1 zd_W_lacksProvider_13 (lv_at hl 0 rfl) ?_
    refine lv_aload_n X.1 X.2.1 zd_W_lacksProvider_15 rfl (lv_at hl 2 rfl) ?_
    refine g_cW_aspects X hP zd_W_lacksProvider_16 ?_
    refine lv_iload_n X.1 X.2.1 zd_W_lacksProvider_19 rfl (lv_at hl 4 rfl) ?_
    refine z_callVi (As := [.int (nI a)]) (rest := [.int (nI i)]) (q0 := 2) (ci := 1) X hml (k_A_needCount l K G A hD σ a (by omega)) (zk_W_78 X.2.2.2.1 (z_rm (by omega) (by decide))) rfl rfl rfl hP hS rfl hl.1 rfl (Nat.le_of_ble_eq_true rfl) zd_W_lacksProvider_20 ⟨Nat.zero_le _, Nat.zero_le _⟩ (fun H locs hP hS => ?_)
    refine lv_icmp_ge (tgt := 73) X.1 X.2.1 zd_W_lacksProvider_23 (by decide) (fun h9 => absurd h9 (by rw [nI_leI (by omega) (by omega)]; omega)) (fun _ => ?_)
    refine lv_aload_n X.1 X.2.1 zd_W_lacksProvider_26 rfl (lv_at hl 2 rfl) ?_
    refine g_cW_aspects X hP zd_W_lacksProvider_27 ?_
    refine lv_iload_n X.1 X.2.1 zd_W_lacksProvider_30 rfl (lv_at hl 4 rfl) ?_
    refine lv_iload X.1 X.2.1 zd_W_lacksProvider_31 (lv_at hl 0 rfl) ?_
    refine z_callVi (As := [.int (nI a), .int (nI i)]) (rest := []) (q0 := 2) (ci := 1) X hml (k_A_needAt l K G A hD σ a i (by omega) (by omega)) (zk_W_152 X.2.2.2.1 (z_rm (by omega) (by decide))) rfl rfl rfl hP hS rfl hl.1 rfl (Nat.le_of_ble_eq_true rfl) zd_W_lacksProvider_33 ⟨Nat.zero_le _, Nat.zero_le _⟩ (fun H locs hP hS => ?_)
    refine lv_istore (lv' := [(6, .int (nI (cA_needs σ (a * 3 + i)))), (5, .int (nI i)), (4, .int (cOffer σ t a k i)), (0, .ref (G 0)), (1, .int (nI t)), (2, .int (nI a)), (3, .int (nI k))]) X.1 X.2.1 zd_W_lacksProvider_36 hl (by decide) rfl (fun ls hl => ?_)
    refine lv_aload_n X.1 X.2.1 zd_W_lacksProvider_38 rfl (lv_at hl 3 rfl) ?_
    refine g_cW_memory X hP zd_W_lacksProvider_39 ?_
    refine lv_iload_n X.1 X.2.1 zd_W_lacksProvider_42 rfl (lv_at hl 4 rfl) ?_
    refine lv_iload X.1 X.2.1 zd_W_lacksProvider_43 (lv_at hl 0 rfl) ?_
    refine lv_iload_n X.1 X.2.1 zd_W_lacksProvider_45 rfl (lv_at hl 6 rfl) ?_
    refine z_callVi (As := [.int (nI t), .int (nI (cA_needs σ (a * 3 + i))), .int (nI k)]) (rest := []) (q0 := 3) (ci := 2) X hml (k_M_known l K G A hD σ t (cA_needs σ (a * 3 + i)) k (by omega) (by omega) (by omega)) (zk_W_98 X.2.2.2.1 (z_rm (by omega) (by decide))) rfl rfl rfl hP hS rfl hl.1 rfl (Nat.le_of_ble_eq_true rfl) zd_W_lacksProvider_46 ⟨Nat.zero_le _, Nat.zero_le _⟩ (fun H locs hP hS => ?_)
    refine lv_iconst (v := nI 1) X.1 X.2.1 zd_W_lacksProvider_49 (by decide) ?_
    refine lv_icmp_ne (tgt := 67) X.1 X.2.1 zd_W_lacksProvider_50 (by decide) (fun c1 => ?_) (fun c1 => ?_)
    · refine lv_iinc (v := nI (i + 1)) (lv' := [(5, .int (nI (i + 1))), (6, .int (nI (cA_needs σ (a * 3 + i)))), (4, .int (cOffer σ t a k i)), (0, .ref (G 0)), (1, .int (nI t)), (2, .int (nI a)), (3, .int (nI k))]) X.1 X.2.1 zd_W_lacksProvider_67 hl (k := 1) rfl (nI_1 _) (by decide) rfl (fun ls hl => ?_)
      refine lv_goto (tgt := 13) X.1 X.2.1 zd_W_lacksProvider_70 (by decide) ?_
      exact ih (i + 1) (by omega) H locs ls hP hS (by rw [show cOffer σ t a k (i + 1) = cOffer σ t a k i from (by rw [cOffer]; simp [*])]; exact lv_sub hl [0, 2, 3, 4, 5, 6] rfl)
    · refine lv_iload X.1 X.2.1 zd_W_lacksProvider_53 (lv_at hl 2 rfl) ?_
      refine lv_aload_n X.1 X.2.1 zd_W_lacksProvider_55 rfl (lv_at hl 3 rfl) ?_
      refine g_cW_aspects X hP zd_W_lacksProvider_56 ?_
      refine lv_iload X.1 X.2.1 zd_W_lacksProvider_59 (lv_at hl 0 rfl) ?_
      refine z_callVi (As := [.int (nI (cA_needs σ (a * 3 + i)))]) (rest := [.int (cOffer σ t a k i)]) (q0 := 2) (ci := 1) X hml (k_A_givesOf l K G A hD σ (cA_needs σ (a * 3 + i)) (by omega)) (zk_W_170 X.2.2.2.1 (z_rm (by omega) (by decide))) rfl rfl rfl hP hS rfl hl.1 rfl (Nat.le_of_ble_eq_true rfl) zd_W_lacksProvider_61 ⟨Nat.zero_le _, Nat.zero_le _⟩ (fun H locs hP hS => ?_)
      refine lv_ior X.1 X.2.1 zd_W_lacksProvider_64 ?_
      refine lv_istore (lv' := [(4, .int ((cOffer σ t a k i) ||| (cA_gives σ (cA_needs σ (a * 3 + i))))), (6, .int (nI (cA_needs σ (a * 3 + i)))), (5, .int (nI i)), (0, .ref (G 0)), (1, .int (nI t)), (2, .int (nI a)), (3, .int (nI k))]) X.1 X.2.1 zd_W_lacksProvider_65 hl (by decide) rfl (fun ls hl => ?_)
      refine lv_iinc (v := nI (i + 1)) (lv' := [(5, .int (nI (i + 1))), (4, .int ((cOffer σ t a k i) ||| (cA_gives σ (cA_needs σ (a * 3 + i))))), (6, .int (nI (cA_needs σ (a * 3 + i)))), (0, .ref (G 0)), (1, .int (nI t)), (2, .int (nI a)), (3, .int (nI k))]) X.1 X.2.1 zd_W_lacksProvider_67 hl (k := 2) rfl (nI_1 _) (by decide) rfl (fun ls hl => ?_)
      refine lv_goto (tgt := 13) X.1 X.2.1 zd_W_lacksProvider_70 (by decide) ?_
      exact ih (i + 1) (by omega) H locs ls hP hS (by rw [show cOffer σ t a k (i + 1) = (cOffer σ t a k i) ||| (cA_gives σ (cA_needs σ (a * 3 + i))) from (by rw [cOffer]; simp [*])]; exact lv_sub hl [0, 1, 3, 4, 5, 6] rfl)

set_option maxHeartbeats 4000000 in
set_option maxRecDepth 100000 in
/-- lacksProvider(t, a, k) -/
theorem k_W_lacksProvider (l : Launch) (K : zK) (G : Nat → Nat) (A : Nat → Prop) (hD : ∀ σ, va_D A (cW K G σ)) (σ : cS) (t a k : Nat) (ht : t < 20) (ha : a < 8) (hk : k < 16) (hB : cB σ) : zMet l K A zy_W_lacksProvider zws_W_lacksProvider 2 [.ref (G 0), .int (nI t), .int (nI a), .int (nI k)] (cW K G σ) (cW K G σ) (some (.int (nI (cLacks σ t a k)))) := by
  refine z_entry (by decide) (Nat.le_of_ble_eq_true rfl) ?_
  intro p e s m below meth c ls X hr hml hlocks hP hl
  have hS : va_S A s.heap s.heap [] := va_S.rf
  have hl : lv_has ls 7 [(0, .ref (G 0)), (1, .int (nI t)), (2, .int (nI a)), (3, .int (nI k))] := hl
  refine lv_aload_n X.1 X.2.1 zd_W_lacksProvider_0 rfl (lv_at hl 0 rfl) ?_
  refine g_cW_targets X hP zd_W_lacksProvider_1 ?_
  refine lv_iload_n X.1 X.2.1 zd_W_lacksProvider_4 rfl (lv_at hl 1 rfl) ?_
  refine z_callVi (As := [.int (nI t)]) (rest := []) (q0 := 1) (ci := 0) X hml (k_T_providersOf l K G A hD σ t (by omega)) (zk_W_167 X.2.2.2.1 (z_rm (by omega) (by decide))) rfl rfl rfl hP hS rfl hl.1 rfl (Nat.le_of_ble_eq_true rfl) zd_W_lacksProvider_5 ⟨Nat.zero_le _, Nat.zero_le _⟩ (fun H locs hP hS => ?_)
  refine lv_istore (lv' := [(4, .int (cT_providers σ t)), (0, .ref (G 0)), (1, .int (nI t)), (2, .int (nI a)), (3, .int (nI k))]) X.1 X.2.1 zd_W_lacksProvider_8 hl (by decide) rfl (fun ls hl => ?_)
  refine lv_iconst (v := nI 0) X.1 X.2.1 zd_W_lacksProvider_10 (by decide) ?_
  refine lv_istore (lv' := [(5, .int (nI 0)), (4, .int (cT_providers σ t)), (0, .ref (G 0)), (1, .int (nI t)), (2, .int (nI a)), (3, .int (nI k))]) X.1 X.2.1 zd_W_lacksProvider_11 hl (by decide) rfl (fun ls hl => ?_)
  exact q_W_lacksProvider l K G A hD X hr hml hlocks σ t a k ht ha hk hB (cA_needCounts σ a) 0 (Nat.zero_add _) H locs ls hP hS (lv_sub hl [0, 1, 2, 3, 4, 5] rfl)

set_option maxHeartbeats 4000000 in
set_option maxRecDepth 100000 in
/-- joinNeeds' loop -/
theorem q_W_joinNeeds {p : Program} {e : Env} {s : State} {m : MethodId} {args : Array Value} {below : List Frame} {meth : Method} {c : Code} (l : Launch) (K : zK) (G : Nat → Nat) (A : Nat → Prop) (hD : ∀ σ, va_D A (cW K G σ)) (X : zFx K zR_W zb_W_joinNeeds p s m args c) (hr : meth.sig.returnType = (some .long)) (hml : c.maxLocals = 10) (hlocks : meth.locks = false) (σ : cS) (kd : Nat) (x : Int64) (t a k : Nat) (ht : t < 20) (ha : a < 8) (hk : k < 16) (hB : cB σ) (hkd : kd ≤ 3) : ∀ (j i : Nat), i + j = cA_needCounts σ a → ∀ (H : Heap) (locs : List Loc) (ls : Array Slot), va_P K.1 zcl (cW K G σ) H → va_S A s.heap H locs → lv_has ls 10 [(9, .int (nI i)), (7, .long (cJN σ kd x t a k i)), (6, .int (nI kd)), (0, .ref (G 0)), (1, .long x), (3, .int (nI t)), (4, .int (nI a)), (5, .int (nI k))] → W p l e (zrm 3) s m args below meth c H locs 0 0 (MQ below (zPost K A (cW K G σ) (some (.long (cJN σ kd x t a k (cA_needCounts σ a))))) args s 0 0 A) (F0 m 17 ls []) := by
  intro j
  induction j with
  | zero =>
    intro i hi H locs ls hP hS hl
    have hB1 := hB.2.2.2.2.2.1 (a * 3 + i)
    have hB2 := hB.2.2.2.2.2.2.1 a
    have hB3 := hB.2.2.2.2.2.2.2.1 a
    refine lv_iload X.1 X.2.1 zd_W_joinNeeds_17 (lv_at hl 0 rfl) ?_
    refine lv_aload_n X.1 X.2.1 zd_W_joinNeeds_19 rfl (lv_at hl 3 rfl) ?_
    refine g_cW_aspects X hP zd_W_joinNeeds_20 ?_
    refine lv_iload X.1 X.2.1 zd_W_joinNeeds_23 (lv_at hl 6 rfl) ?_
    refine z_callVi (As := [.int (nI a)]) (rest := [.int (nI i)]) (q0 := 2) (ci := 1) X hml (k_A_needCount l K G A hD σ a (by omega)) (zk_W_78 X.2.2.2.1 (z_rm (by omega) (by decide))) rfl rfl rfl hP hS rfl hl.1 rfl (Nat.le_of_ble_eq_true rfl) zd_W_joinNeeds_25 ⟨Nat.zero_le _, Nat.zero_le _⟩ (fun H locs hP hS => ?_)
    refine lv_icmp_ge (tgt := 61) X.1 X.2.1 zd_W_joinNeeds_28 (by decide) (fun _ => ?_) (fun h9 => absurd (by rw [nI_leI (by omega) (by omega)]; omega) h9)
    refine lv_lload X.1 X.2.1 zd_W_joinNeeds_61 (lv_at hl 1 rfl) ?_
    exact z_lret X.1 X.2.1 hr hlocks (by rw [show i = cA_needCounts σ a by omega]) rfl hP hS zd_W_joinNeeds_63
  | succ j ih =>
    intro i hi H locs ls hP hS hl
    have hB1 := hB.2.2.2.2.2.1 (a * 3 + i)
    have hB2 := hB.2.2.2.2.2.2.1 a
    have hB3 := hB.2.2.2.2.2.2.2.1 a
    refine lv_iload X.1 X.2.1 zd_W_joinNeeds_17 (lv_at hl 0 rfl) ?_
    refine lv_aload_n X.1 X.2.1 zd_W_joinNeeds_19 rfl (lv_at hl 3 rfl) ?_
    refine g_cW_aspects X hP zd_W_joinNeeds_20 ?_
    refine lv_iload X.1 X.2.1 zd_W_joinNeeds_23 (lv_at hl 6 rfl) ?_
    refine z_callVi (As := [.int (nI a)]) (rest := [.int (nI i)]) (q0 := 2) (ci := 1) X hml (k_A_needCount l K G A hD σ a (by omega)) (zk_W_78 X.2.2.2.1 (z_rm (by omega) (by decide))) rfl rfl rfl hP hS rfl hl.1 rfl (Nat.le_of_ble_eq_true rfl) zd_W_joinNeeds_25 ⟨Nat.zero_le _, Nat.zero_le _⟩ (fun H locs hP hS => ?_)
    refine lv_icmp_ge (tgt := 61) X.1 X.2.1 zd_W_joinNeeds_28 (by decide) (fun h9 => absurd h9 (by rw [nI_leI (by omega) (by omega)]; omega)) (fun _ => ?_)
    refine lv_aload_n X.1 X.2.1 zd_W_joinNeeds_31 rfl (lv_at hl 3 rfl) ?_
    refine lv_iload X.1 X.2.1 zd_W_joinNeeds_32 (lv_at hl 2 rfl) ?_
    refine lv_lload X.1 X.2.1 zd_W_joinNeeds_34 (lv_at hl 1 rfl) ?_
    refine lv_iload_n X.1 X.2.1 zd_W_joinNeeds_36 rfl (lv_at hl 5 rfl) ?_
    refine lv_aload_n X.1 X.2.1 zd_W_joinNeeds_37 rfl (lv_at hl 3 rfl) ?_
    refine g_cW_aspects X hP zd_W_joinNeeds_38 ?_
    refine lv_iload X.1 X.2.1 zd_W_joinNeeds_41 (lv_at hl 6 rfl) ?_
    refine lv_iload X.1 X.2.1 zd_W_joinNeeds_43 (lv_at hl 0 rfl) ?_
    refine z_callVi (As := [.int (nI a), .int (nI i)]) (rest := [.int (nI t), .long (cJN σ kd x t a k i), .int (nI kd), .ref (G 0)]) (q0 := 2) (ci := 1) X hml (k_A_needAt l K G A hD σ a i (by omega) (by omega)) (zk_W_152 X.2.2.2.1 (z_rm (by omega) (by decide))) rfl rfl rfl hP hS rfl hl.1 rfl (Nat.le_of_ble_eq_true rfl) zd_W_joinNeeds_45 ⟨Nat.zero_le _, Nat.zero_le _⟩ (fun H locs hP hS => ?_)
    refine lv_iload X.1 X.2.1 zd_W_joinNeeds_48 (lv_at hl 7 rfl) ?_
    refine z_callVl (As := [.int (nI kd), .long (cJN σ kd x t a k i), .int (nI t), .int (nI (cA_needs σ (a * 3 + i))), .int (nI k)]) (rest := []) (q0 := 0) (ci := 3) X hml (k_W_joinPart l K G A hD σ kd (cJN σ kd x t a k i) t (cA_needs σ (a * 3 + i)) k (by omega) (by omega) (by omega) (by omega)) (zk_W_200 X.2.2.2.1 (z_rm (by omega) (by decide))) rfl rfl rfl hP hS rfl hl.1 rfl (Nat.le_of_ble_eq_true rfl) zd_W_joinNeeds_50 ⟨Nat.zero_le _, Nat.zero_le _⟩ (fun H locs hP hS => ?_)
    refine lv_lstore (lv' := [(7, .long (cJoinPart σ kd (cJN σ kd x t a k i) t (cA_needs σ (a * 3 + i)) k)), (9, .int (nI i)), (6, .int (nI kd)), (0, .ref (G 0)), (1, .long x), (3, .int (nI t)), (4, .int (nI a)), (5, .int (nI k))]) X.1 X.2.1 zd_W_joinNeeds_53 hl (by decide) rfl (fun ls hl => ?_)
    refine lv_iinc (v := nI (i + 1)) (lv' := [(9, .int (nI (i + 1))), (7, .long (cJoinPart σ kd (cJN σ kd x t a k i) t (cA_needs σ (a * 3 + i)) k)), (6, .int (nI kd)), (0, .ref (G 0)), (1, .long x), (3, .int (nI t)), (4, .int (nI a)), (5, .int (nI k))]) X.1 X.2.1 zd_W_joinNeeds_55 hl (k := 1) rfl (nI_1 _) (by decide) rfl (fun ls hl => ?_)
    refine lv_goto (tgt := 17) X.1 X.2.1 zd_W_joinNeeds_58 (by decide) ?_
    exact ih (i + 1) (by omega) H locs ls hP hS (lv_sub hl [0, 1, 2, 3, 4, 5, 6, 7] rfl)

set_option maxHeartbeats 4000000 in
set_option maxRecDepth 100000 in
/-- joinNeeds(x, t, a, k) -/
theorem k_W_joinNeeds (l : Launch) (K : zK) (G : Nat → Nat) (A : Nat → Prop) (hD : ∀ σ, va_D A (cW K G σ)) (σ : cS) (x : Int64) (t a k : Nat) (ht : t < 20) (ha : a < 8) (hk : k < 16) (hB : cB σ) : zMet l K A zy_W_joinNeeds zws_W_joinNeeds 3 [.ref (G 0), .long x, .int (nI t), .int (nI a), .int (nI k)] (cW K G σ) (cW K G σ) (some (.long (cJN σ (cA_kinds σ a) x t a k (cA_needCounts σ a)))) := by
  refine z_entry (by decide) (Nat.le_of_ble_eq_true rfl) ?_
  intro p e s m below meth c ls X hr hml hlocks hP hl
  have hS : va_S A s.heap s.heap [] := va_S.rf
  have hl : lv_has ls 10 [(0, .ref (G 0)), (1, .long x), (3, .int (nI t)), (4, .int (nI a)), (5, .int (nI k))] := hl
  refine lv_aload_n X.1 X.2.1 zd_W_joinNeeds_0 rfl (lv_at hl 0 rfl) ?_
  refine g_cW_aspects X hP zd_W_joinNeeds_1 ?_
  refine lv_iload X.1 X.2.1 zd_W_joinNeeds_4 (lv_at hl 3 rfl) ?_
  refine z_callVi (As := [.int (nI a)]) (rest := []) (q0 := 2) (ci := 1) X hml (k_A_kindOf l K G A hD σ a (by omega)) (zk_W_186 X.2.2.2.1 (z_rm (by omega) (by decide))) rfl rfl rfl hP hS rfl hl.1 rfl (Nat.le_of_ble_eq_true rfl) zd_W_joinNeeds_6 ⟨Nat.zero_le _, Nat.zero_le _⟩ (fun H locs hP hS => ?_)
  refine lv_istore (lv' := [(6, .int (nI (cA_kinds σ a))), (0, .ref (G 0)), (1, .long x), (3, .int (nI t)), (4, .int (nI a)), (5, .int (nI k))]) X.1 X.2.1 zd_W_joinNeeds_9 hl (by decide) rfl (fun ls hl => ?_)
  refine lv_lload_n X.1 X.2.1 zd_W_joinNeeds_11 rfl (lv_at hl 2 rfl) ?_
  refine lv_lstore (lv' := [(7, .long x), (6, .int (nI (cA_kinds σ a))), (0, .ref (G 0)), (1, .long x), (3, .int (nI t)), (4, .int (nI a)), (5, .int (nI k))]) X.1 X.2.1 zd_W_joinNeeds_12 hl (by decide) rfl (fun ls hl => ?_)
  refine lv_iconst (v := nI 0) X.1 X.2.1 zd_W_joinNeeds_14 (by decide) ?_
  refine lv_istore (lv' := [(9, .int (nI 0)), (7, .long x), (6, .int (nI (cA_kinds σ a))), (0, .ref (G 0)), (1, .long x), (3, .int (nI t)), (4, .int (nI a)), (5, .int (nI k))]) X.1 X.2.1 zd_W_joinNeeds_15 hl (by decide) rfl (fun ls hl => ?_)
  exact q_W_joinNeeds l K G A hD X hr hml hlocks σ _ x t a k ht ha hk hB (hB.2.2.2.2.2.2.2.1 a) (cA_needCounts σ a) 0 (Nat.zero_add _) H locs ls hP hS (lv_sub hl [0, 1, 2, 3, 4, 5, 6, 7] rfl)

set_option maxHeartbeats 4000000 in
set_option maxRecDepth 100000 in
/-- joinBelow's inner loop -/
theorem q_W_joinBelow_i {p : Program} {e : Env} {s : State} {m : MethodId} {args : Array Value} {below : List Frame} {meth : Method} {c : Code} {Q : State → Prop} (l : Launch) (K : zK) (G : Nat → Nat) (A : Nat → Prop) (hD : ∀ σ, va_D A (cW K G σ)) (X : zFx K zR_W zb_W_joinBelow p s m args c) (hr : meth.sig.returnType = (some .long)) (hml : c.maxLocals = 13) (hlocks : meth.locks = false) (σ : cS) (kd : Nat) (x y : Int64) (t a k z : Nat) (ht : t < 20) (ha : a < 8) (hk : k < 16) (hz : z < 3) (hB : cB σ) (hkd : kd ≤ 3) (kont : ∀ (H : Heap) (locs : List Loc) (ls : Array Slot), va_P K.1 zcl (cW K G σ) H → va_S A s.heap H locs → lv_has ls 13 [(7, .long (cJBi σ kd y t a k z (cLen σ t a z))), (9, .int (nI z)), (6, .int (nI kd)), (0, .ref (G 0)), (1, .long x), (3, .int (nI t)), (4, .int (nI a)), (5, .int (nI k))] → W p l e (zrm 3) s m args below meth c H locs 0 0 Q (F0 m 80 ls [])) : ∀ (j i : Nat), i + j = cLen σ t a z → ∀ (H : Heap) (locs : List Loc) (ls : Array Slot), va_P K.1 zcl (cW K G σ) H → va_S A s.heap H locs → lv_has ls 13 [(11, .int (nI i)), (7, .long (cJBi σ kd y t a k z i)), (10, .int (nI (cLen σ t a z))), (9, .int (nI z)), (6, .int (nI kd)), (0, .ref (G 0)), (1, .long x), (3, .int (nI t)), (4, .int (nI a)), (5, .int (nI k))] → W p l e (zrm 3) s m args below meth c H locs 0 0 Q (F0 m 37 ls []) := by
  intro j
  induction j with
  | zero =>
    intro i hi H locs ls hP hS hl
    have hB1 := hB.2.2.2.1 ((t * 3 + z) * 4 + i)
    have hB2 := cLen_le hB t a z
    refine lv_iload X.1 X.2.1 zd_W_joinBelow_37 (lv_at hl 0 rfl) ?_
    refine lv_iload X.1 X.2.1 zd_W_joinBelow_39 (lv_at hl 2 rfl) ?_
    refine lv_icmp_ge (tgt := 80) X.1 X.2.1 zd_W_joinBelow_41 (by decide) (fun _ => ?_) (fun h9 => absurd (by rw [nI_leI (by omega) (by omega)]; omega) h9)
    exact kont H locs ls hP hS (by have h9 := hl; rw [show i = cLen σ t a z by omega] at h9; exact lv_sub h9 [1, 3, 4, 5, 6, 7, 8, 9] rfl)
  | succ j ih =>
    intro i hi H locs ls hP hS hl
    have hB1 := hB.2.2.2.1 ((t * 3 + z) * 4 + i)
    have hB2 := cLen_le hB t a z
    refine lv_iload X.1 X.2.1 zd_W_joinBelow_37 (lv_at hl 0 rfl) ?_
    refine lv_iload X.1 X.2.1 zd_W_joinBelow_39 (lv_at hl 2 rfl) ?_
    refine lv_icmp_ge (tgt := 80) X.1 X.2.1 zd_W_joinBelow_41 (by decide) (fun h9 => absurd h9 (by rw [nI_leI (by omega) (by omega)]; omega)) (fun _ => ?_)
    refine lv_aload_n X.1 X.2.1 zd_W_joinBelow_44 rfl (lv_at hl 5 rfl) ?_
    refine g_cW_targets X hP zd_W_joinBelow_45 ?_
    refine lv_iload_n X.1 X.2.1 zd_W_joinBelow_48 rfl (lv_at hl 7 rfl) ?_
    refine lv_iload X.1 X.2.1 zd_W_joinBelow_49 (lv_at hl 3 rfl) ?_
    refine lv_iload X.1 X.2.1 zd_W_joinBelow_51 (lv_at hl 0 rfl) ?_
    refine z_callVi (As := [.int (nI t), .int (nI z), .int (nI i)]) (rest := []) (q0 := 1) (ci := 0) X hml (k_T_rowAt l K G A hD σ t z i (by omega) (by omega) (by omega)) (zk_W_158 X.2.2.2.1 (z_rm (by omega) (by decide))) rfl rfl rfl hP hS rfl hl.1 rfl (Nat.le_of_ble_eq_true rfl) zd_W_joinBelow_53 ⟨Nat.zero_le _, Nat.zero_le _⟩ (fun H locs hP hS => ?_)
    refine lv_istore (lv' := [(12, .int (nI (cT_rows σ ((t * 3 + z) * 4 + i)))), (11, .int (nI i)), (7, .long (cJBi σ kd y t a k z i)), (10, .int (nI (cLen σ t a z))), (9, .int (nI z)), (6, .int (nI kd)), (0, .ref (G 0)), (1, .long x), (3, .int (nI t)), (4, .int (nI a)), (5, .int (nI k))]) X.1 X.2.1 zd_W_joinBelow_56 hl (by decide) rfl (fun ls hl => ?_)
    refine lv_aload_n X.1 X.2.1 zd_W_joinBelow_58 rfl (lv_at hl 6 rfl) ?_
    refine lv_iload X.1 X.2.1 zd_W_joinBelow_59 (lv_at hl 5 rfl) ?_
    refine lv_lload X.1 X.2.1 zd_W_joinBelow_61 (lv_at hl 2 rfl) ?_
    refine lv_iload X.1 X.2.1 zd_W_joinBelow_63 (lv_at hl 0 rfl) ?_
    refine lv_iload X.1 X.2.1 zd_W_joinBelow_65 (lv_at hl 9 rfl) ?_
    refine lv_iload X.1 X.2.1 zd_W_joinBelow_67 (lv_at hl 10 rfl) ?_
    refine z_callVl (As := [.int (nI kd), .long (cJBi σ kd y t a k z i), .int (nI (cT_rows σ ((t * 3 + z) * 4 + i))), .int (nI a), .int (nI k)]) (rest := []) (q0 := 0) (ci := 3) X hml (k_W_joinPart l K G A hD σ kd (cJBi σ kd y t a k z i) (cT_rows σ ((t * 3 + z) * 4 + i)) a k (by omega) (by omega) (by omega) (by omega)) (zk_W_200 X.2.2.2.1 (z_rm (by omega) (by decide))) rfl rfl rfl hP hS rfl hl.1 rfl (Nat.le_of_ble_eq_true rfl) zd_W_joinBelow_69 ⟨Nat.zero_le _, Nat.zero_le _⟩ (fun H locs hP hS => ?_)
    refine lv_lstore (lv' := [(7, .long (cJoinPart σ kd (cJBi σ kd y t a k z i) (cT_rows σ ((t * 3 + z) * 4 + i)) a k)), (12, .int (nI (cT_rows σ ((t * 3 + z) * 4 + i)))), (11, .int (nI i)), (10, .int (nI (cLen σ t a z))), (9, .int (nI z)), (6, .int (nI kd)), (0, .ref (G 0)), (1, .long x), (3, .int (nI t)), (4, .int (nI a)), (5, .int (nI k))]) X.1 X.2.1 zd_W_joinBelow_72 hl (by decide) rfl (fun ls hl => ?_)
    refine lv_iinc (v := nI (i + 1)) (lv' := [(11, .int (nI (i + 1))), (7, .long (cJoinPart σ kd (cJBi σ kd y t a k z i) (cT_rows σ ((t * 3 + z) * 4 + i)) a k)), (12, .int (nI (cT_rows σ ((t * 3 + z) * 4 + i)))), (10, .int (nI (cLen σ t a z))), (9, .int (nI z)), (6, .int (nI kd)), (0, .ref (G 0)), (1, .long x), (3, .int (nI t)), (4, .int (nI a)), (5, .int (nI k))]) X.1 X.2.1 zd_W_joinBelow_74 hl (k := 2) rfl (nI_1 _) (by decide) rfl (fun ls hl => ?_)
    refine lv_goto (tgt := 37) X.1 X.2.1 zd_W_joinBelow_77 (by decide) ?_
    exact ih (i + 1) (by omega) H locs ls hP hS (lv_sub hl [0, 1, 3, 4, 5, 6, 7, 8, 9, 10] rfl)

set_option maxHeartbeats 4000000 in
set_option maxRecDepth 100000 in
/-- joinBelow's outer loop -/
theorem q_W_joinBelow {p : Program} {e : Env} {s : State} {m : MethodId} {args : Array Value} {below : List Frame} {meth : Method} {c : Code} (l : Launch) (K : zK) (G : Nat → Nat) (A : Nat → Prop) (hD : ∀ σ, va_D A (cW K G σ)) (X : zFx K zR_W zb_W_joinBelow p s m args c) (hr : meth.sig.returnType = (some .long)) (hml : c.maxLocals = 13) (hlocks : meth.locks = false) (σ : cS) (kd : Nat) (x : Int64) (t a k : Nat) (ht : t < 20) (ha : a < 8) (hk : k < 16) (hB : cB σ) (hkd : kd ≤ 3) : ∀ (j z : Nat), z + j = 3 → ∀ (H : Heap) (locs : List Loc) (ls : Array Slot), va_P K.1 zcl (cW K G σ) H → va_S A s.heap H locs → lv_has ls 13 [(9, .int (nI z)), (7, .long (cJB σ kd x t a k z)), (6, .int (nI kd)), (0, .ref (G 0)), (1, .long x), (3, .int (nI t)), (4, .int (nI a)), (5, .int (nI k))] → W p l e (zrm 3) s m args below meth c H locs 0 0 (MQ below (zPost K A (cW K G σ) (some (.long (cJB σ kd x t a k 3)))) args s 0 0 A) (F0 m 17 ls []) := by
  intro j
  induction j with
  | zero =>
    intro z hi H locs ls hP hS hl
    refine lv_iload X.1 X.2.1 zd_W_joinBelow_17 (lv_at hl 0 rfl) ?_
    refine lv_iconst (v := nI 3) X.1 X.2.1 zd_W_joinBelow_19 (by decide) ?_
    refine lv_icmp_ge (tgt := 86) X.1 X.2.1 zd_W_joinBelow_20 (by decide) (fun _ => ?_) (fun h9 => absurd (by rw [nI_leI (by omega) (by omega)]; omega) h9)
    refine lv_lload X.1 X.2.1 zd_W_joinBelow_86 (lv_at hl 1 rfl) ?_
    exact z_lret X.1 X.2.1 hr hlocks (by rw [show z = 3 by omega]) rfl hP hS zd_W_joinBelow_88
  | succ j ih =>
    intro z hi H locs ls hP hS hl
    refine lv_iload X.1 X.2.1 zd_W_joinBelow_17 (lv_at hl 0 rfl) ?_
    refine lv_iconst (v := nI 3) X.1 X.2.1 zd_W_joinBelow_19 (by decide) ?_
    refine lv_icmp_ge (tgt := 86) X.1 X.2.1 zd_W_joinBelow_20 (by decide) (fun h9 => absurd h9 (by rw [nI_leI (by omega) (by omega)]; omega)) (fun _ => ?_)
    refine lv_aload_n X.1 X.2.1 zd_W_joinBelow_23 rfl (lv_at hl 3 rfl) ?_
    refine lv_iload_n X.1 X.2.1 zd_W_joinBelow_24 rfl (lv_at hl 5 rfl) ?_
    refine lv_iload X.1 X.2.1 zd_W_joinBelow_25 (lv_at hl 6 rfl) ?_
    refine lv_iload X.1 X.2.1 zd_W_joinBelow_27 (lv_at hl 0 rfl) ?_
    refine z_callVi (As := [.int (nI t), .int (nI a), .int (nI z)]) (rest := []) (q0 := 0) (ci := 3) X hml (k_W_lengthAlong l K G A hD σ t a z (by omega) (by omega) (by omega)) (zk_W_155 X.2.2.2.1 (z_rm (by omega) (by decide))) rfl rfl rfl hP hS rfl hl.1 rfl (Nat.le_of_ble_eq_true rfl) zd_W_joinBelow_29 ⟨Nat.zero_le _, Nat.zero_le _⟩ (fun H locs hP hS => ?_)
    refine lv_istore (lv' := [(10, .int (nI (cLen σ t a z))), (9, .int (nI z)), (7, .long (cJB σ kd x t a k z)), (6, .int (nI kd)), (0, .ref (G 0)), (1, .long x), (3, .int (nI t)), (4, .int (nI a)), (5, .int (nI k))]) X.1 X.2.1 zd_W_joinBelow_32 hl (by decide) rfl (fun ls hl => ?_)
    refine lv_iconst (v := nI 0) X.1 X.2.1 zd_W_joinBelow_34 (by decide) ?_
    refine lv_istore (lv' := [(11, .int (nI 0)), (10, .int (nI (cLen σ t a z))), (9, .int (nI z)), (7, .long (cJB σ kd x t a k z)), (6, .int (nI kd)), (0, .ref (G 0)), (1, .long x), (3, .int (nI t)), (4, .int (nI a)), (5, .int (nI k))]) X.1 X.2.1 zd_W_joinBelow_35 hl (by decide) rfl (fun ls hl => ?_)
    refine q_W_joinBelow_i l K G A hD X hr hml hlocks σ kd x _ t a k z ht ha hk (by omega) hB hkd (fun H locs ls hP hS hl => ?_) (cLen σ t a z) 0 (Nat.zero_add _) H locs ls hP hS (lv_sub hl [0, 3, 1, 2, 4, 5, 6, 7, 8, 9] rfl)
    refine lv_iinc (v := nI (z + 1)) (lv' := [(9, .int (nI (z + 1))), (7, .long (cJBi σ kd (cJB σ kd x t a k z) t a k z (cLen σ t a z))), (6, .int (nI kd)), (0, .ref (G 0)), (1, .long x), (3, .int (nI t)), (4, .int (nI a)), (5, .int (nI k))]) X.1 X.2.1 zd_W_joinBelow_80 hl (k := 1) rfl (nI_1 _) (by decide) rfl (fun ls hl => ?_)
    refine lv_goto (tgt := 17) X.1 X.2.1 zd_W_joinBelow_83 (by decide) ?_
    exact ih (z + 1) (by omega) H locs ls hP hS (lv_sub hl [0, 1, 2, 3, 4, 5, 6, 7] rfl)

set_option maxHeartbeats 4000000 in
set_option maxRecDepth 100000 in
/-- joinBelow(x, t, a, k) -/
theorem k_W_joinBelow (l : Launch) (K : zK) (G : Nat → Nat) (A : Nat → Prop) (hD : ∀ σ, va_D A (cW K G σ)) (σ : cS) (x : Int64) (t a k : Nat) (ht : t < 20) (ha : a < 8) (hk : k < 16) (hB : cB σ) : zMet l K A zy_W_joinBelow zws_W_joinBelow 3 [.ref (G 0), .long x, .int (nI t), .int (nI a), .int (nI k)] (cW K G σ) (cW K G σ) (some (.long (cJB σ (cA_kinds σ a) x t a k 3))) := by
  refine z_entry (by decide) (Nat.le_of_ble_eq_true rfl) ?_
  intro p e s m below meth c ls X hr hml hlocks hP hl
  have hS : va_S A s.heap s.heap [] := va_S.rf
  have hl : lv_has ls 13 [(0, .ref (G 0)), (1, .long x), (3, .int (nI t)), (4, .int (nI a)), (5, .int (nI k))] := hl
  refine lv_aload_n X.1 X.2.1 zd_W_joinBelow_0 rfl (lv_at hl 0 rfl) ?_
  refine g_cW_aspects X hP zd_W_joinBelow_1 ?_
  refine lv_iload X.1 X.2.1 zd_W_joinBelow_4 (lv_at hl 3 rfl) ?_
  refine z_callVi (As := [.int (nI a)]) (rest := []) (q0 := 2) (ci := 1) X hml (k_A_kindOf l K G A hD σ a (by omega)) (zk_W_186 X.2.2.2.1 (z_rm (by omega) (by decide))) rfl rfl rfl hP hS rfl hl.1 rfl (Nat.le_of_ble_eq_true rfl) zd_W_joinBelow_6 ⟨Nat.zero_le _, Nat.zero_le _⟩ (fun H locs hP hS => ?_)
  refine lv_istore (lv' := [(6, .int (nI (cA_kinds σ a))), (0, .ref (G 0)), (1, .long x), (3, .int (nI t)), (4, .int (nI a)), (5, .int (nI k))]) X.1 X.2.1 zd_W_joinBelow_9 hl (by decide) rfl (fun ls hl => ?_)
  refine lv_lload_n X.1 X.2.1 zd_W_joinBelow_11 rfl (lv_at hl 2 rfl) ?_
  refine lv_lstore (lv' := [(7, .long x), (6, .int (nI (cA_kinds σ a))), (0, .ref (G 0)), (1, .long x), (3, .int (nI t)), (4, .int (nI a)), (5, .int (nI k))]) X.1 X.2.1 zd_W_joinBelow_12 hl (by decide) rfl (fun ls hl => ?_)
  refine lv_iconst (v := nI 0) X.1 X.2.1 zd_W_joinBelow_14 (by decide) ?_
  refine lv_istore (lv' := [(9, .int (nI 0)), (7, .long x), (6, .int (nI (cA_kinds σ a))), (0, .ref (G 0)), (1, .long x), (3, .int (nI t)), (4, .int (nI a)), (5, .int (nI k))]) X.1 X.2.1 zd_W_joinBelow_15 hl (by decide) rfl (fun ls hl => ?_)
  exact q_W_joinBelow l K G A hD X hr hml hlocks σ _ x t a k ht ha hk hB (hB.2.2.2.2.2.2.2.1 a) (3) 0 (Nat.zero_add _) H locs ls hP hS (lv_sub hl [0, 1, 2, 3, 4, 5, 6, 7] rfl)

set_option maxHeartbeats 4000000 in
set_option maxRecDepth 100000 in
/-- joined, the counting kind -/
theorem k_W_joined_3 (l : Launch) (K : zK) (G : Nat → Nat) (A : Nat → Prop) (hD : ∀ σ, va_D A (cW K G σ)) (σ : cS) (t a k : Nat) (ht : t < 20) (ha : a < 8) (hk : k < 16) (hB : cB σ) (h3 : cA_kinds σ a = 3) : zMet l K A zy_W_joined zws_W_joined 4 [.ref (G 0), .int (nI t), .int (nI a), .int (nI k)] (cW K G σ) (cW K G σ) (some (.long (cJoined σ t a k))) := by
  have hB3 := hB.2.2.2.2.2.2.2.1 a
  refine z_entry (by decide) (Nat.le_of_ble_eq_true rfl) ?_
  intro p e s m below meth c ls X hr hml hlocks hP hl
  have hS : va_S A s.heap s.heap [] := va_S.rf
  have hl : lv_has ls 9 [(0, .ref (G 0)), (1, .int (nI t)), (2, .int (nI a)), (3, .int (nI k))] := hl
  refine lv_aload_n X.1 X.2.1 zd_W_joined_0 rfl (lv_at hl 0 rfl) ?_
  refine g_cW_aspects X hP zd_W_joined_1 ?_
  refine lv_iload_n X.1 X.2.1 zd_W_joined_4 rfl (lv_at hl 2 rfl) ?_
  refine z_callVi (As := [.int (nI a)]) (rest := []) (q0 := 2) (ci := 1) X hml (k_A_kindOf l K G A hD σ a (by omega)) (zk_W_186 X.2.2.2.1 (z_rm (by omega) (by decide))) rfl rfl rfl hP hS rfl hl.1 rfl (Nat.le_of_ble_eq_true rfl) zd_W_joined_5 ⟨Nat.zero_le _, Nat.zero_le _⟩ (fun H locs hP hS => ?_)
  refine lv_istore (lv' := [(4, .int (nI (cA_kinds σ a))), (0, .ref (G 0)), (1, .int (nI t)), (2, .int (nI a)), (3, .int (nI k))]) X.1 X.2.1 zd_W_joined_8 hl (by decide) rfl (fun ls hl => ?_)
  refine lv_iload X.1 X.2.1 zd_W_joined_10 (lv_at hl 0 rfl) ?_
  refine lv_iconst (v := nI 3) X.1 X.2.1 zd_W_joined_12 (by decide) ?_
  refine lv_icmp_ne (tgt := 20) X.1 X.2.1 zd_W_joined_13 (by decide) (fun h9 => absurd (by rw [nI_eq (by omega) (by omega)]; exact h3) h9) (fun _ => ?_)
  refine lv_lconst (v := 1) X.1 X.2.1 zd_W_joined_16 (by decide) ?_
  refine lv_goto (tgt := 31) X.1 X.2.1 zd_W_joined_17 (by decide) ?_
  refine lv_lstore (lv' := [(5, .long 1), (4, .int (nI (cA_kinds σ a))), (0, .ref (G 0)), (1, .int (nI t)), (2, .int (nI a)), (3, .int (nI k))]) X.1 X.2.1 zd_W_joined_31 hl (by decide) rfl (fun ls hl => ?_)
  refine lv_aload_n X.1 X.2.1 zd_W_joined_33 rfl (lv_at hl 2 rfl) ?_
  refine lv_lload X.1 X.2.1 zd_W_joined_34 (lv_at hl 0 rfl) ?_
  refine lv_iload_n X.1 X.2.1 zd_W_joined_36 rfl (lv_at hl 3 rfl) ?_
  refine lv_iload_n X.1 X.2.1 zd_W_joined_37 rfl (lv_at hl 4 rfl) ?_
  refine lv_iload_n X.1 X.2.1 zd_W_joined_38 rfl (lv_at hl 5 rfl) ?_
  refine z_callVl (As := [.long 1, .int (nI t), .int (nI a), .int (nI k)]) (rest := []) (q0 := 0) (ci := 3) X hml (k_W_joinBelow l K G A hD σ 1 t a k (by omega) (by omega) (by omega) hB) (zk_W_193 X.2.2.2.1 (z_rm (by omega) (by decide))) rfl rfl rfl hP hS rfl hl.1 rfl (Nat.le_of_ble_eq_true rfl) zd_W_joined_39 ⟨Nat.zero_le _, Nat.zero_le _⟩ (fun H locs hP hS => ?_)
  refine lv_lstore (lv' := [(7, .long (cJB σ (cA_kinds σ a) 1 t a k 3)), (5, .long 1), (4, .int (nI (cA_kinds σ a))), (0, .ref (G 0)), (1, .int (nI t)), (2, .int (nI a)), (3, .int (nI k))]) X.1 X.2.1 zd_W_joined_42 hl (by decide) rfl (fun ls hl => ?_)
  refine lv_iload X.1 X.2.1 zd_W_joined_44 (lv_at hl 2 rfl) ?_
  refine lv_iconst (v := nI 3) X.1 X.2.1 zd_W_joined_46 (by decide) ?_
  refine lv_icmp_ne (tgt := 55) X.1 X.2.1 zd_W_joined_47 (by decide) (fun h9 => absurd (by rw [nI_eq (by omega) (by omega)]; exact h3) h9) (fun _ => ?_)
  refine lv_lload X.1 X.2.1 zd_W_joined_50 (lv_at hl 0 rfl) ?_
  refine lv_goto (tgt := 64) X.1 X.2.1 zd_W_joined_52 (by decide) ?_
  exact z_lret X.1 X.2.1 hr hlocks (by rw [cJoined, if_pos h3]) rfl hP hS zd_W_joined_64

set_option maxHeartbeats 4000000 in
set_option maxRecDepth 100000 in
/-- joined, another kind -/
theorem k_W_joined_n (l : Launch) (K : zK) (G : Nat → Nat) (A : Nat → Prop) (hD : ∀ σ, va_D A (cW K G σ)) (σ : cS) (t a k : Nat) (ht : t < 20) (ha : a < 8) (hk : k < 16) (hB : cB σ) (h3 : ¬ cA_kinds σ a = 3) : zMet l K A zy_W_joined zws_W_joined 4 [.ref (G 0), .int (nI t), .int (nI a), .int (nI k)] (cW K G σ) (cW K G σ) (some (.long (cJoined σ t a k))) := by
  have hB3 := hB.2.2.2.2.2.2.2.1 a
  refine z_entry (by decide) (Nat.le_of_ble_eq_true rfl) ?_
  intro p e s m below meth c ls X hr hml hlocks hP hl
  have hS : va_S A s.heap s.heap [] := va_S.rf
  have hl : lv_has ls 9 [(0, .ref (G 0)), (1, .int (nI t)), (2, .int (nI a)), (3, .int (nI k))] := hl
  refine lv_aload_n X.1 X.2.1 zd_W_joined_0 rfl (lv_at hl 0 rfl) ?_
  refine g_cW_aspects X hP zd_W_joined_1 ?_
  refine lv_iload_n X.1 X.2.1 zd_W_joined_4 rfl (lv_at hl 2 rfl) ?_
  refine z_callVi (As := [.int (nI a)]) (rest := []) (q0 := 2) (ci := 1) X hml (k_A_kindOf l K G A hD σ a (by omega)) (zk_W_186 X.2.2.2.1 (z_rm (by omega) (by decide))) rfl rfl rfl hP hS rfl hl.1 rfl (Nat.le_of_ble_eq_true rfl) zd_W_joined_5 ⟨Nat.zero_le _, Nat.zero_le _⟩ (fun H locs hP hS => ?_)
  refine lv_istore (lv' := [(4, .int (nI (cA_kinds σ a))), (0, .ref (G 0)), (1, .int (nI t)), (2, .int (nI a)), (3, .int (nI k))]) X.1 X.2.1 zd_W_joined_8 hl (by decide) rfl (fun ls hl => ?_)
  refine lv_iload X.1 X.2.1 zd_W_joined_10 (lv_at hl 0 rfl) ?_
  refine lv_iconst (v := nI 3) X.1 X.2.1 zd_W_joined_12 (by decide) ?_
  refine lv_icmp_ne (tgt := 20) X.1 X.2.1 zd_W_joined_13 (by decide) (fun _ => ?_) (fun h9 => absurd h9 (by rw [nI_eq (by omega) (by omega)]; exact h3))
  refine lv_aload_n X.1 X.2.1 zd_W_joined_20 rfl (lv_at hl 1 rfl) ?_
  refine g_cW_targets X hP zd_W_joined_21 ?_
  refine lv_iload_n X.1 X.2.1 zd_W_joined_24 rfl (lv_at hl 2 rfl) ?_
  refine z_callVl (As := [.int (nI t)]) (rest := []) (q0 := 1) (ci := 0) X hml (k_T_valueOf l K G A hD σ t (by omega)) (zk_W_189 X.2.2.2.1 (z_rm (by omega) (by decide))) rfl rfl rfl hP hS rfl hl.1 rfl (Nat.le_of_ble_eq_true rfl) zd_W_joined_25 ⟨Nat.zero_le _, Nat.zero_le _⟩ (fun H locs hP hS => ?_)
  refine lv_iload_n X.1 X.2.1 zd_W_joined_28 rfl (lv_at hl 4 rfl) ?_
  refine lv_i2l (v := (nI k).toInt64) X.1 X.2.1 zd_W_joined_29 rfl ?_
  refine lv_ladd X.1 X.2.1 zd_W_joined_30 ?_
  refine lv_lstore (lv' := [(5, .long ((cT_values σ t) + ((nI k).toInt64))), (4, .int (nI (cA_kinds σ a))), (0, .ref (G 0)), (1, .int (nI t)), (2, .int (nI a)), (3, .int (nI k))]) X.1 X.2.1 zd_W_joined_31 hl (by decide) rfl (fun ls hl => ?_)
  refine lv_aload_n X.1 X.2.1 zd_W_joined_33 rfl (lv_at hl 2 rfl) ?_
  refine lv_lload X.1 X.2.1 zd_W_joined_34 (lv_at hl 0 rfl) ?_
  refine lv_iload_n X.1 X.2.1 zd_W_joined_36 rfl (lv_at hl 3 rfl) ?_
  refine lv_iload_n X.1 X.2.1 zd_W_joined_37 rfl (lv_at hl 4 rfl) ?_
  refine lv_iload_n X.1 X.2.1 zd_W_joined_38 rfl (lv_at hl 5 rfl) ?_
  refine z_callVl (As := [.long ((cT_values σ t) + ((nI k).toInt64)), .int (nI t), .int (nI a), .int (nI k)]) (rest := []) (q0 := 0) (ci := 3) X hml (k_W_joinBelow l K G A hD σ ((cT_values σ t) + ((nI k).toInt64)) t a k (by omega) (by omega) (by omega) hB) (zk_W_193 X.2.2.2.1 (z_rm (by omega) (by decide))) rfl rfl rfl hP hS rfl hl.1 rfl (Nat.le_of_ble_eq_true rfl) zd_W_joined_39 ⟨Nat.zero_le _, Nat.zero_le _⟩ (fun H locs hP hS => ?_)
  refine lv_lstore (lv' := [(7, .long (cJB σ (cA_kinds σ a) ((cT_values σ t) + ((nI k).toInt64)) t a k 3)), (5, .long ((cT_values σ t) + ((nI k).toInt64))), (4, .int (nI (cA_kinds σ a))), (0, .ref (G 0)), (1, .int (nI t)), (2, .int (nI a)), (3, .int (nI k))]) X.1 X.2.1 zd_W_joined_42 hl (by decide) rfl (fun ls hl => ?_)
  refine lv_iload X.1 X.2.1 zd_W_joined_44 (lv_at hl 2 rfl) ?_
  refine lv_iconst (v := nI 3) X.1 X.2.1 zd_W_joined_46 (by decide) ?_
  refine lv_icmp_ne (tgt := 55) X.1 X.2.1 zd_W_joined_47 (by decide) (fun _ => ?_) (fun h9 => absurd h9 (by rw [nI_eq (by omega) (by omega)]; exact h3))
  refine lv_aload_n X.1 X.2.1 zd_W_joined_55 rfl (lv_at hl 3 rfl) ?_
  refine lv_lload X.1 X.2.1 zd_W_joined_56 (lv_at hl 0 rfl) ?_
  refine lv_iload_n X.1 X.2.1 zd_W_joined_58 rfl (lv_at hl 4 rfl) ?_
  refine lv_iload_n X.1 X.2.1 zd_W_joined_59 rfl (lv_at hl 5 rfl) ?_
  refine lv_iload_n X.1 X.2.1 zd_W_joined_60 rfl (lv_at hl 6 rfl) ?_
  refine z_callVl (As := [.long (cJB σ (cA_kinds σ a) ((cT_values σ t) + ((nI k).toInt64)) t a k 3), .int (nI t), .int (nI a), .int (nI k)]) (rest := []) (q0 := 0) (ci := 3) X hml (k_W_joinNeeds l K G A hD σ (cJB σ (cA_kinds σ a) ((cT_values σ t) + ((nI k).toInt64)) t a k 3) t a k (by omega) (by omega) (by omega) hB) (zk_W_197 X.2.2.2.1 (z_rm (by omega) (by decide))) rfl rfl rfl hP hS rfl hl.1 rfl (Nat.le_of_ble_eq_true rfl) zd_W_joined_61 ⟨Nat.zero_le _, Nat.zero_le _⟩ (fun H locs hP hS => ?_)
  exact z_lret X.1 X.2.1 hr hlocks (by rw [cJoined, if_neg h3]) rfl hP hS zd_W_joined_64

theorem k_W_joined (l : Launch) (K : zK) (G : Nat → Nat) (A : Nat → Prop) (hD : ∀ σ, va_D A (cW K G σ)) (σ : cS) (t a k : Nat) (ht : t < 20) (ha : a < 8) (hk : k < 16) (hB : cB σ) : zMet l K A zy_W_joined zws_W_joined 4 [.ref (G 0), .int (nI t), .int (nI a), .int (nI k)] (cW K G σ) (cW K G σ) (some (.long (cJoined σ t a k))) := by
  by_cases h3 : cA_kinds σ a = 3
  · exact k_W_joined_3 l K G A hD σ t a k ht ha hk hB h3
  · exact k_W_joined_n l K G A hD σ t a k ht ha hk hB h3
end
section
/-! contracts of makeOutput, forgetFrom, forgetAllOf (by program: wip/gen/wforget.py) -/
def cClash (σ : cS) (t a k q : Nat) : cS := p_cW_clash σ (upd (upd (upd (upd (upd (cW_clash σ) 0 (nI t)) 1 (nI a)) 2 (nI k)) 3 (cM_makers σ (t * 10 + q))) 4 (nI (cM_makerSettings σ (t * 10 + q))))
def cMake (σ : cS) (t a k : Nat) : Nat × cS := if cA_names σ a = -1 then (1, σ) else if cM_makers σ (t * 10 + (cA_names σ a).toNatClampNeg) = -1 then (1, cKeepMaker σ t (cA_names σ a).toNatClampNeg a k) else (0, cClash σ t a k (cA_names σ a).toNatClampNeg)
theorem cMake_lt (σ : cS) (t a k : Nat) : (cMake σ t a k).1 < 2 ^ 31 := by unfold cMake; split <;> (try split) <;> (dsimp only; decide)
def cFFi (σ : cS) (u : Nat) : Nat → cS
  | 0 => σ
  | a + 1 => cForget (cFFi σ u a) u a (cA_names (cFFi σ u a) a)
def cFF (σ : cS) (n : Nat) : Nat → cS
  | 0 => σ
  | u + 1 => if cLead (cT_reached (cFF σ n u) u) n = 0 then cFF σ n u else cFFi (cFF σ n u) u (cA_opened σ)
def cFAi (σ : cS) (a : Nat) : Nat → cS
  | 0 => σ
  | u + 1 => cForget (cFAi σ a u) u a (cA_names (cFAi σ a u) a)
def cFA (σ : cS) (n : Nat) : Nat → cS
  | 0 => σ
  | a + 1 => if cLead (cA_reached (cFA σ n a) a) n = 0 then cFA σ n a else cFAi (cFA σ n a) a (cT_opened σ)
/-- Targets and Aspects stay -/
def cSame (τ σ : cS) : Prop := τ.1 = σ.1 ∧ τ.2.1 = σ.2.1
theorem cSame.tr {a b c : cS} (h1 : cSame a b) (h2 : cSame b c) : cSame a c := ⟨h1.1.trans h2.1, h1.2.trans h2.2⟩
theorem cForget_same (σ : cS) (t a : Nat) (nm : Int32) : cSame (cForget σ t a nm) σ := by
  unfold cForget cForgetQ
  split
  · exact ⟨rfl, rfl⟩
  · split
    · exact ⟨rfl, rfl⟩
    · exact ⟨rfl, rfl⟩
theorem cFFi_same (σ : cS) (u i : Nat) : cSame (cFFi σ u i) σ := by
  induction i with
  | zero => exact ⟨rfl, rfl⟩
  | succ i ih => exact (cForget_same _ _ _ _).tr ih
theorem cFF_same (σ : cS) (n u : Nat) : cSame (cFF σ n u) σ := by
  induction u with
  | zero => exact ⟨rfl, rfl⟩
  | succ u ih =>
    unfold cFF
    split
    · exact ih
    · exact (cFFi_same _ _ _).tr ih
theorem cFAi_same (σ : cS) (a i : Nat) : cSame (cFAi σ a i) σ := by
  induction i with
  | zero => exact ⟨rfl, rfl⟩
  | succ i ih => exact (cForget_same _ _ _ _).tr ih
theorem cFA_same (σ : cS) (n u : Nat) : cSame (cFA σ n u) σ := by
  induction u with
  | zero => exact ⟨rfl, rfl⟩
  | succ u ih =>
    unfold cFA
    split
    · exact ih
    · exact (cFAi_same _ _ _).tr ih
theorem cSame.oT {τ σ : cS} (h : cSame τ σ) : cT_opened τ = cT_opened σ := by unfold cT_opened; rw [h.1]
theorem cSame.oA {τ σ : cS} (h : cSame τ σ) : cA_opened τ = cA_opened σ := by unfold cA_opened; rw [h.2]
theorem cSame.nm {τ σ : cS} (h : cSame τ σ) : cA_names τ = cA_names σ := by unfold cA_names; rw [h.2]

set_option maxHeartbeats 4000000 in
set_option maxRecDepth 100000 in
/-- makeOutput: no name -/
theorem k_W_makeOutput_n (l : Launch) (K : zK) (G : Nat → Nat) (A : Nat → Prop) (hD : ∀ σ, va_D A (cW K G σ)) (σ : cS) (t a k : Nat) (ht : t < 20) (ha : a < 8) (hk : k < 16) (hq : cA_names σ a = -1) : zMet l K A zy_W_makeOutput zws_W_makeOutput 1 [.ref (G 0), .int (nI t), .int (nI a), .int (nI k)] (cW K G σ) (cW K G ((cMake σ t a k).2)) (some (.int (nI ((cMake σ t a k).1)))) := by
  refine z_entry (by decide) (Nat.le_of_ble_eq_true rfl) ?_
  intro p e s m below meth c ls X hr hml hlocks hP hl
  have hS : va_S A s.heap s.heap [] := va_S.rf
  have hl : lv_has ls 6 [(0, .ref (G 0)), (1, .int (nI t)), (2, .int (nI a)), (3, .int (nI k))] := hl
  refine lv_aload_n X.1 X.2.1 zd_W_makeOutput_0 rfl (lv_at hl 0 rfl) ?_
  refine g_cW_aspects X hP zd_W_makeOutput_1 ?_
  refine lv_iload_n X.1 X.2.1 zd_W_makeOutput_4 rfl (lv_at hl 2 rfl) ?_
  refine z_callVi (As := [.int (nI a)]) (rest := []) (q0 := 2) (ci := 1) X hml (k_A_nameOf l K G A hD σ a (by omega)) (zk_W_176 X.2.2.2.1 (z_rm (by omega) (by decide))) rfl rfl rfl hP hS rfl hl.1 rfl (Nat.le_of_ble_eq_true rfl) zd_W_makeOutput_5 ⟨Nat.zero_le _, Nat.zero_le _⟩ (fun H locs hP hS => ?_)
  refine lv_istore (lv' := [(4, .int (cA_names σ a)), (0, .ref (G 0)), (1, .int (nI t)), (2, .int (nI a)), (3, .int (nI k))]) X.1 X.2.1 zd_W_makeOutput_8 hl (by decide) rfl (fun ls hl => ?_)
  refine lv_iload X.1 X.2.1 zd_W_makeOutput_10 (lv_at hl 0 rfl) ?_
  refine lv_iconst (v := -1) X.1 X.2.1 zd_W_makeOutput_12 (by decide) ?_
  refine lv_icmp_ne (tgt := 18) X.1 X.2.1 zd_W_makeOutput_13 (by decide) (fun h9 => absurd hq h9) (fun _ => ?_)
  refine lv_iconst (v := nI 1) X.1 X.2.1 zd_W_makeOutput_16 (by decide) ?_
  exact z_zret X.1 X.2.1 hr hlocks (Or.inr rfl) (by rw [cMake, if_pos hq]) (by rw [cMake, if_pos hq]) hP hS zd_W_makeOutput_17

set_option maxHeartbeats 4000000 in
set_option maxRecDepth 100000 in
/-- makeOutput: m -/
theorem k_W_makeOutput_m (l : Launch) (K : zK) (G : Nat → Nat) (A : Nat → Prop) (hD : ∀ σ, va_D A (cW K G σ)) (σ : cS) (t a k : Nat) (ht : t < 20) (ha : a < 8) (hk : k < 16) (q : Nat) (hq10 : q < 10) (hq : cA_names σ a = nI q) (hm : cM_makers σ (t * 10 + q) = -1) : zMet l K A zy_W_makeOutput zws_W_makeOutput 1 [.ref (G 0), .int (nI t), .int (nI a), .int (nI k)] (cW K G σ) (cW K G ((cMake σ t a k).2)) (some (.int (nI ((cMake σ t a k).1)))) := by
  have hne : ¬ nI q = -1 := by intro h; have := congrArg Int32.toInt h; rw [nI_toInt (by omega)] at this; simp at this
  refine z_entry (by decide) (Nat.le_of_ble_eq_true rfl) ?_
  intro p e s m below meth c ls X hr hml hlocks hP hl
  have hS : va_S A s.heap s.heap [] := va_S.rf
  have hl : lv_has ls 6 [(0, .ref (G 0)), (1, .int (nI t)), (2, .int (nI a)), (3, .int (nI k))] := hl
  refine lv_aload_n X.1 X.2.1 zd_W_makeOutput_0 rfl (lv_at hl 0 rfl) ?_
  refine g_cW_aspects X hP zd_W_makeOutput_1 ?_
  refine lv_iload_n X.1 X.2.1 zd_W_makeOutput_4 rfl (lv_at hl 2 rfl) ?_
  refine z_callVi (As := [.int (nI a)]) (rest := []) (q0 := 2) (ci := 1) X hml (k_A_nameOf l K G A hD σ a (by omega)) (zk_W_176 X.2.2.2.1 (z_rm (by omega) (by decide))) rfl rfl rfl hP hS rfl hl.1 rfl (Nat.le_of_ble_eq_true rfl) zd_W_makeOutput_5 ⟨Nat.zero_le _, Nat.zero_le _⟩ (fun H locs hP hS => ?_)
  refine z_top hq ?_
  refine lv_istore (lv' := [(4, .int (nI q)), (0, .ref (G 0)), (1, .int (nI t)), (2, .int (nI a)), (3, .int (nI k))]) X.1 X.2.1 zd_W_makeOutput_8 hl (by decide) rfl (fun ls hl => ?_)
  refine lv_iload X.1 X.2.1 zd_W_makeOutput_10 (lv_at hl 0 rfl) ?_
  refine lv_iconst (v := -1) X.1 X.2.1 zd_W_makeOutput_12 (by decide) ?_
  refine lv_icmp_ne (tgt := 18) X.1 X.2.1 zd_W_makeOutput_13 (by decide) (fun _ => ?_) (fun h9 => absurd h9 hne)
  refine lv_aload_n X.1 X.2.1 zd_W_makeOutput_18 rfl (lv_at hl 1 rfl) ?_
  refine g_cW_memory X hP zd_W_makeOutput_19 ?_
  refine lv_iload_n X.1 X.2.1 zd_W_makeOutput_22 rfl (lv_at hl 2 rfl) ?_
  refine lv_iload X.1 X.2.1 zd_W_makeOutput_23 (lv_at hl 0 rfl) ?_
  refine z_callVi (As := [.int (nI t), .int (nI q)]) (rest := []) (q0 := 3) (ci := 2) X hml (k_M_makerOf l K G A hD σ t q (by omega) (by omega)) (zk_W_126 X.2.2.2.1 (z_rm (by omega) (by decide))) rfl rfl rfl hP hS rfl hl.1 rfl (Nat.le_of_ble_eq_true rfl) zd_W_makeOutput_25 ⟨Nat.zero_le _, Nat.zero_le _⟩ (fun H locs hP hS => ?_)
  refine lv_istore (lv' := [(5, .int (cM_makers σ (t * 10 + q))), (4, .int (nI q)), (0, .ref (G 0)), (1, .int (nI t)), (2, .int (nI a)), (3, .int (nI k))]) X.1 X.2.1 zd_W_makeOutput_28 hl (by decide) rfl (fun ls hl => ?_)
  refine lv_iload X.1 X.2.1 zd_W_makeOutput_30 (lv_at hl 0 rfl) ?_
  refine lv_iconst (v := -1) X.1 X.2.1 zd_W_makeOutput_32 (by decide) ?_
  refine lv_icmp_ne (tgt := 50) X.1 X.2.1 zd_W_makeOutput_33 (by decide) (fun h9 => absurd hm h9) (fun _ => ?_)
  refine lv_aload_n X.1 X.2.1 zd_W_makeOutput_36 rfl (lv_at hl 2 rfl) ?_
  refine g_cW_memory X hP zd_W_makeOutput_37 ?_
  refine lv_iload_n X.1 X.2.1 zd_W_makeOutput_40 rfl (lv_at hl 3 rfl) ?_
  refine lv_iload X.1 X.2.1 zd_W_makeOutput_41 (lv_at hl 1 rfl) ?_
  refine lv_iload_n X.1 X.2.1 zd_W_makeOutput_43 rfl (lv_at hl 4 rfl) ?_
  refine lv_iload_n X.1 X.2.1 zd_W_makeOutput_44 rfl (lv_at hl 5 rfl) ?_
  refine z_callVv (As := [.int (nI t), .int (nI q), .int (nI a), .int (nI k)]) (rest := []) (q0 := 3) (ci := 2) X hml (k_M_keepMaker l K G A hD σ t q a k (by omega) (by omega)) (zk_W_179 X.2.2.2.1 (z_rm (by omega) (by decide))) rfl rfl rfl hP hS rfl hl.1 rfl (Nat.le_of_ble_eq_true rfl) zd_W_makeOutput_45 ⟨Nat.zero_le _, Nat.zero_le _⟩ (fun H locs hP hS => ?_)
  refine lv_iconst (v := nI 1) X.1 X.2.1 zd_W_makeOutput_48 (by decide) ?_
  exact z_zret X.1 X.2.1 hr hlocks (Or.inr rfl) (by simp [cMake, hq, hne, nI_clamp (show q < 2 ^ 31 by omega), hm]) (by simp [cMake, hq, hne, nI_clamp (show q < 2 ^ 31 by omega), hm]; try rfl) hP hS zd_W_makeOutput_49

set_option maxHeartbeats 4000000 in
set_option maxRecDepth 100000 in
/-- makeOutput: c -/
theorem k_W_makeOutput_c (l : Launch) (K : zK) (G : Nat → Nat) (A : Nat → Prop) (hD : ∀ σ, va_D A (cW K G σ)) (σ : cS) (t a k : Nat) (ht : t < 20) (ha : a < 8) (hk : k < 16) (q : Nat) (hq10 : q < 10) (hq : cA_names σ a = nI q) (hm : ¬ cM_makers σ (t * 10 + q) = -1) : zMet l K A zy_W_makeOutput zws_W_makeOutput 1 [.ref (G 0), .int (nI t), .int (nI a), .int (nI k)] (cW K G σ) (cW K G ((cMake σ t a k).2)) (some (.int (nI ((cMake σ t a k).1)))) := by
  have hne : ¬ nI q = -1 := by intro h; have := congrArg Int32.toInt h; rw [nI_toInt (by omega)] at this; simp at this
  refine z_entry (by decide) (Nat.le_of_ble_eq_true rfl) ?_
  intro p e s m below meth c ls X hr hml hlocks hP hl
  have hS : va_S A s.heap s.heap [] := va_S.rf
  have hl : lv_has ls 6 [(0, .ref (G 0)), (1, .int (nI t)), (2, .int (nI a)), (3, .int (nI k))] := hl
  refine lv_aload_n X.1 X.2.1 zd_W_makeOutput_0 rfl (lv_at hl 0 rfl) ?_
  refine g_cW_aspects X hP zd_W_makeOutput_1 ?_
  refine lv_iload_n X.1 X.2.1 zd_W_makeOutput_4 rfl (lv_at hl 2 rfl) ?_
  refine z_callVi (As := [.int (nI a)]) (rest := []) (q0 := 2) (ci := 1) X hml (k_A_nameOf l K G A hD σ a (by omega)) (zk_W_176 X.2.2.2.1 (z_rm (by omega) (by decide))) rfl rfl rfl hP hS rfl hl.1 rfl (Nat.le_of_ble_eq_true rfl) zd_W_makeOutput_5 ⟨Nat.zero_le _, Nat.zero_le _⟩ (fun H locs hP hS => ?_)
  refine z_top hq ?_
  refine lv_istore (lv' := [(4, .int (nI q)), (0, .ref (G 0)), (1, .int (nI t)), (2, .int (nI a)), (3, .int (nI k))]) X.1 X.2.1 zd_W_makeOutput_8 hl (by decide) rfl (fun ls hl => ?_)
  refine lv_iload X.1 X.2.1 zd_W_makeOutput_10 (lv_at hl 0 rfl) ?_
  refine lv_iconst (v := -1) X.1 X.2.1 zd_W_makeOutput_12 (by decide) ?_
  refine lv_icmp_ne (tgt := 18) X.1 X.2.1 zd_W_makeOutput_13 (by decide) (fun _ => ?_) (fun h9 => absurd h9 hne)
  refine lv_aload_n X.1 X.2.1 zd_W_makeOutput_18 rfl (lv_at hl 1 rfl) ?_
  refine g_cW_memory X hP zd_W_makeOutput_19 ?_
  refine lv_iload_n X.1 X.2.1 zd_W_makeOutput_22 rfl (lv_at hl 2 rfl) ?_
  refine lv_iload X.1 X.2.1 zd_W_makeOutput_23 (lv_at hl 0 rfl) ?_
  refine z_callVi (As := [.int (nI t), .int (nI q)]) (rest := []) (q0 := 3) (ci := 2) X hml (k_M_makerOf l K G A hD σ t q (by omega) (by omega)) (zk_W_126 X.2.2.2.1 (z_rm (by omega) (by decide))) rfl rfl rfl hP hS rfl hl.1 rfl (Nat.le_of_ble_eq_true rfl) zd_W_makeOutput_25 ⟨Nat.zero_le _, Nat.zero_le _⟩ (fun H locs hP hS => ?_)
  refine lv_istore (lv' := [(5, .int (cM_makers σ (t * 10 + q))), (4, .int (nI q)), (0, .ref (G 0)), (1, .int (nI t)), (2, .int (nI a)), (3, .int (nI k))]) X.1 X.2.1 zd_W_makeOutput_28 hl (by decide) rfl (fun ls hl => ?_)
  refine lv_iload X.1 X.2.1 zd_W_makeOutput_30 (lv_at hl 0 rfl) ?_
  refine lv_iconst (v := -1) X.1 X.2.1 zd_W_makeOutput_32 (by decide) ?_
  refine lv_icmp_ne (tgt := 50) X.1 X.2.1 zd_W_makeOutput_33 (by decide) (fun _ => ?_) (fun h9 => absurd h9 hm)
  refine lv_aload_n X.1 X.2.1 zd_W_makeOutput_50 rfl (lv_at hl 2 rfl) ?_
  refine g_cW_latestClash X hP zd_W_makeOutput_51 ?_
  refine lv_iconst (v := nI 0) X.1 X.2.1 zd_W_makeOutput_54 (by decide) ?_
  refine lv_iload_n X.1 X.2.1 zd_W_makeOutput_55 rfl (lv_at hl 3 rfl) ?_
  refine s_cW_clash X hD hP hS (by omega) zd_W_makeOutput_56 (fun H locs hP hS => ?_)
  have hP : va_P K.1 zcl (cW K G (p_cW_clash σ (upd (cW_clash σ) 0 (nI t)))) H := hP
  refine lv_aload_n X.1 X.2.1 zd_W_makeOutput_57 rfl (lv_at hl 2 rfl) ?_
  refine g_cW_latestClash X hP zd_W_makeOutput_58 ?_
  refine lv_iconst (v := nI 1) X.1 X.2.1 zd_W_makeOutput_61 (by decide) ?_
  refine lv_iload_n X.1 X.2.1 zd_W_makeOutput_62 rfl (lv_at hl 4 rfl) ?_
  refine s_cW_clash X hD hP hS (by omega) zd_W_makeOutput_63 (fun H locs hP hS => ?_)
  have hP : va_P K.1 zcl (cW K G (p_cW_clash σ (upd (upd (cW_clash σ) 0 (nI t)) 1 (nI a)))) H := hP
  refine lv_aload_n X.1 X.2.1 zd_W_makeOutput_64 rfl (lv_at hl 2 rfl) ?_
  refine g_cW_latestClash X hP zd_W_makeOutput_65 ?_
  refine lv_iconst (v := nI 2) X.1 X.2.1 zd_W_makeOutput_68 (by decide) ?_
  refine lv_iload_n X.1 X.2.1 zd_W_makeOutput_69 rfl (lv_at hl 5 rfl) ?_
  refine s_cW_clash X hD hP hS (by omega) zd_W_makeOutput_70 (fun H locs hP hS => ?_)
  have hP : va_P K.1 zcl (cW K G (p_cW_clash σ (upd (upd (upd (cW_clash σ) 0 (nI t)) 1 (nI a)) 2 (nI k)))) H := hP
  refine lv_aload_n X.1 X.2.1 zd_W_makeOutput_71 rfl (lv_at hl 2 rfl) ?_
  refine g_cW_latestClash X hP zd_W_makeOutput_72 ?_
  refine lv_iconst (v := nI 3) X.1 X.2.1 zd_W_makeOutput_75 (by decide) ?_
  refine lv_iload X.1 X.2.1 zd_W_makeOutput_76 (lv_at hl 0 rfl) ?_
  refine s_cW_clash X hD hP hS (by omega) zd_W_makeOutput_78 (fun H locs hP hS => ?_)
  have hP : va_P K.1 zcl (cW K G (p_cW_clash σ (upd (upd (upd (upd (cW_clash σ) 0 (nI t)) 1 (nI a)) 2 (nI k)) 3 (cM_makers σ (t * 10 + q))))) H := hP
  refine lv_aload_n X.1 X.2.1 zd_W_makeOutput_79 rfl (lv_at hl 2 rfl) ?_
  refine g_cW_latestClash X hP zd_W_makeOutput_80 ?_
  refine lv_iconst (v := nI 4) X.1 X.2.1 zd_W_makeOutput_83 (by decide) ?_
  refine lv_aload_n X.1 X.2.1 zd_W_makeOutput_84 rfl (lv_at hl 2 rfl) ?_
  refine g_cW_memory X hP zd_W_makeOutput_85 ?_
  refine lv_iload_n X.1 X.2.1 zd_W_makeOutput_88 rfl (lv_at hl 3 rfl) ?_
  refine lv_iload X.1 X.2.1 zd_W_makeOutput_89 (lv_at hl 1 rfl) ?_
  refine z_callVi (As := [.int (nI t), .int (nI q)]) (rest := [.int (nI 4), .ref (G 4)]) (q0 := 3) (ci := 2) X hml (k_M_makerSettingOf l K G A hD (p_cW_clash σ (upd (upd (upd (upd (cW_clash σ) 0 (nI t)) 1 (nI a)) 2 (nI k)) 3 (cM_makers σ (t * 10 + q)))) t q (by omega) (by omega)) (zk_W_183 X.2.2.2.1 (z_rm (by omega) (by decide))) rfl rfl rfl hP hS rfl hl.1 rfl (Nat.le_of_ble_eq_true rfl) zd_W_makeOutput_91 ⟨Nat.zero_le _, Nat.zero_le _⟩ (fun H locs hP hS => ?_)
  refine s_cW_clash X hD hP hS (by omega) zd_W_makeOutput_94 (fun H locs hP hS => ?_)
  have hP : va_P K.1 zcl (cW K G (p_cW_clash σ (upd (upd (upd (upd (upd (cW_clash σ) 0 (nI t)) 1 (nI a)) 2 (nI k)) 3 (cM_makers σ (t * 10 + q))) 4 (nI (cM_makerSettings (p_cW_clash σ (upd (upd (upd (upd (cW_clash σ) 0 (nI t)) 1 (nI a)) 2 (nI k)) 3 (cM_makers σ (t * 10 + q)))) (t * 10 + q)))))) H := hP
  refine lv_iconst (v := nI 0) X.1 X.2.1 zd_W_makeOutput_95 (by decide) ?_
  exact z_zret X.1 X.2.1 hr hlocks (Or.inl rfl) (by simp [cMake, hq, hne, nI_clamp (show q < 2 ^ 31 by omega), hm]) (by simp [cMake, hq, hne, nI_clamp (show q < 2 ^ 31 by omega), hm]; try rfl) hP hS zd_W_makeOutput_96

theorem k_W_makeOutput (l : Launch) (K : zK) (G : Nat → Nat) (A : Nat → Prop) (hD : ∀ σ, va_D A (cW K G σ)) (σ : cS) (t a k : Nat) (ht : t < 20) (ha : a < 8) (hk : k < 16) (hB : cB σ) : zMet l K A zy_W_makeOutput zws_W_makeOutput 1 [.ref (G 0), .int (nI t), .int (nI a), .int (nI k)] (cW K G σ) (cW K G (cMake σ t a k).2) (some (.int (nI (cMake σ t a k).1))) := by
  rcases hB.2.2.2.2.2.2.2.2 a with hq | ⟨q, hq10, hq⟩
  · exact k_W_makeOutput_n l K G A hD σ t a k ht ha hk hq
  · by_cases hm : cM_makers σ (t * 10 + q) = -1
    · exact k_W_makeOutput_m l K G A hD σ t a k ht ha hk q hq10 hq hm
    · exact k_W_makeOutput_c l K G A hD σ t a k ht ha hk q hq10 hq hm

set_option maxHeartbeats 4000000 in
set_option maxRecDepth 100000 in
/-- forgetFrom's inner loop -/
theorem q_W_forgetFrom_i {p : Program} {e : Env} {s : State} {m : MethodId} {args : Array Value} {below : List Frame} {meth : Method} {c : Code} {Q : State → Prop} (l : Launch) (K : zK) (G : Nat → Nat) (A : Nat → Prop) (hD : ∀ σ, va_D A (cW K G σ)) (X : zFx K zR_W zb_W_forgetFrom p s m args c) (hr : meth.sig.returnType = none) (hml : c.maxLocals = 4) (hlocks : meth.locks = false) (σ : cS) (u n : Nat) (hu : u < 20) (hB : cB σ) (kont : ∀ (H : Heap) (locs : List Loc) (ls : Array Slot), va_P K.1 zcl (cW K G (cFFi σ u (cA_opened σ))) H → va_S A s.heap H locs → lv_has ls 4 [(2, .int (nI u)), (0, .ref (G 0)), (1, .int (nI n))] → W p l e (zrm 2) s m args below meth c H locs 0 0 Q (F0 m 61 ls [])) : ∀ (j i : Nat), i + j = cA_opened σ → ∀ (τ : cS), τ = cFFi σ u i → ∀ (H : Heap) (locs : List Loc) (ls : Array Slot), va_P K.1 zcl (cW K G τ) H → va_S A s.heap H locs → lv_has ls 4 [(3, .int (nI i)), (2, .int (nI u)), (0, .ref (G 0)), (1, .int (nI n))] → W p l e (zrm 2) s m args below meth c H locs 0 0 Q (F0 m 27 ls []) := by
  intro j
  induction j with
  | zero =>
    intro i hi τ hτ H locs ls hP hS hl
    have hTA : cSame τ σ := by rw [hτ]; exact cFFi_same σ u i
    have hoA := hTA.oA
    have hn9 : cA_names τ i = -1 ∨ ∃ q, q < 10 ∧ cA_names τ i = nI q := by rw [hTA.nm]; exact hB.2.2.2.2.2.2.2.2 i
    have hB8 := hB.2.1
    refine lv_iload_n X.1 X.2.1 zd_W_forgetFrom_27 rfl (lv_at hl 0 rfl) ?_
    refine lv_aload_n X.1 X.2.1 zd_W_forgetFrom_28 rfl (lv_at hl 2 rfl) ?_
    refine g_cW_aspects X hP zd_W_forgetFrom_29 ?_
    refine z_callVi (As := []) (rest := [.int (nI i)]) (q0 := 2) (ci := 1) X hml (k_A_count l K G A hD τ ) (zk_W_216 X.2.2.2.1 (z_rm (by omega) (by decide))) rfl rfl rfl hP hS rfl hl.1 rfl (Nat.le_of_ble_eq_true rfl) zd_W_forgetFrom_32 ⟨Nat.zero_le _, Nat.zero_le _⟩ (fun H locs hP hS => ?_)
    refine z_top (congrArg nI hoA) ?_
    refine lv_icmp_ge (tgt := 61) X.1 X.2.1 zd_W_forgetFrom_35 (by decide) (fun _ => ?_) (fun h9 => absurd (by rw [nI_leI (by omega) (by omega)]; omega) h9)
    exact kont H locs ls (by have h9 := hP; rw [hτ, show i = cA_opened σ by omega] at h9; exact h9) hS (by have h9 := hl; rw [show i = cA_opened σ by omega] at h9; exact lv_sub h9 [1, 2, 3] rfl)
  | succ j ih =>
    intro i hi τ hτ H locs ls hP hS hl
    have hTA : cSame τ σ := by rw [hτ]; exact cFFi_same σ u i
    have hoA := hTA.oA
    have hn9 : cA_names τ i = -1 ∨ ∃ q, q < 10 ∧ cA_names τ i = nI q := by rw [hTA.nm]; exact hB.2.2.2.2.2.2.2.2 i
    have hB8 := hB.2.1
    refine lv_iload_n X.1 X.2.1 zd_W_forgetFrom_27 rfl (lv_at hl 0 rfl) ?_
    refine lv_aload_n X.1 X.2.1 zd_W_forgetFrom_28 rfl (lv_at hl 2 rfl) ?_
    refine g_cW_aspects X hP zd_W_forgetFrom_29 ?_
    refine z_callVi (As := []) (rest := [.int (nI i)]) (q0 := 2) (ci := 1) X hml (k_A_count l K G A hD τ ) (zk_W_216 X.2.2.2.1 (z_rm (by omega) (by decide))) rfl rfl rfl hP hS rfl hl.1 rfl (Nat.le_of_ble_eq_true rfl) zd_W_forgetFrom_32 ⟨Nat.zero_le _, Nat.zero_le _⟩ (fun H locs hP hS => ?_)
    refine z_top (congrArg nI hoA) ?_
    refine lv_icmp_ge (tgt := 61) X.1 X.2.1 zd_W_forgetFrom_35 (by decide) (fun h9 => absurd h9 (by rw [nI_leI (by omega) (by omega)]; omega)) (fun _ => ?_)
    refine lv_aload_n X.1 X.2.1 zd_W_forgetFrom_38 rfl (lv_at hl 2 rfl) ?_
    refine g_cW_memory X hP zd_W_forgetFrom_39 ?_
    refine lv_iload_n X.1 X.2.1 zd_W_forgetFrom_42 rfl (lv_at hl 1 rfl) ?_
    refine lv_iload_n X.1 X.2.1 zd_W_forgetFrom_43 rfl (lv_at hl 0 rfl) ?_
    refine lv_aload_n X.1 X.2.1 zd_W_forgetFrom_44 rfl (lv_at hl 2 rfl) ?_
    refine g_cW_aspects X hP zd_W_forgetFrom_45 ?_
    refine lv_iload_n X.1 X.2.1 zd_W_forgetFrom_48 rfl (lv_at hl 0 rfl) ?_
    refine z_callVi (As := [.int (nI i)]) (rest := [.int (nI i), .int (nI u), .ref (G 3)]) (q0 := 2) (ci := 1) X hml (k_A_nameOf l K G A hD τ i (by omega)) (zk_W_176 X.2.2.2.1 (z_rm (by omega) (by decide))) rfl rfl rfl hP hS rfl hl.1 rfl (Nat.le_of_ble_eq_true rfl) zd_W_forgetFrom_49 ⟨Nat.zero_le _, Nat.zero_le _⟩ (fun H locs hP hS => ?_)
    refine z_callVv (As := [.int (nI u), .int (nI i), .int (cA_names τ i)]) (rest := []) (q0 := 3) (ci := 2) X hml (k_M_forget l K G A hD τ u i (cA_names τ i) (by omega) (by omega) (by assumption)) (zk_W_217 X.2.2.2.1 (z_rm (by omega) (by decide))) rfl rfl rfl hP hS rfl hl.1 rfl (Nat.le_of_ble_eq_true rfl) zd_W_forgetFrom_52 ⟨Nat.zero_le _, Nat.zero_le _⟩ (fun H locs hP hS => ?_)
    refine lv_iinc (v := nI (i + 1)) (lv' := [(3, .int (nI (i + 1))), (2, .int (nI u)), (0, .ref (G 0)), (1, .int (nI n))]) X.1 X.2.1 zd_W_forgetFrom_55 hl (k := 0) rfl (nI_1 _) (by decide) rfl (fun ls hl => ?_)
    refine lv_goto (tgt := 27) X.1 X.2.1 zd_W_forgetFrom_58 (by decide) ?_
    exact ih (i + 1) (by omega) _ (by rw [hτ]; rfl) H locs ls hP hS (lv_sub hl [0, 1, 2, 3] rfl)

theorem cB_same {τ σ : cS} (h : cSame τ σ) (hB : cB σ) : cB τ := by
  obtain ⟨h1, h2⟩ := h
  obtain ⟨T, A, m⟩ := σ
  obtain ⟨T', A', m'⟩ := τ
  dsimp only at h1 h2
  subst h1; subst h2
  exact hB

set_option maxHeartbeats 4000000 in
set_option maxRecDepth 100000 in
/-- forgetFrom's outer loop -/
theorem q_W_forgetFrom {p : Program} {e : Env} {s : State} {m : MethodId} {args : Array Value} {below : List Frame} {meth : Method} {c : Code} (l : Launch) (K : zK) (G : Nat → Nat) (A : Nat → Prop) (hD : ∀ σ, va_D A (cW K G σ)) (X : zFx K zR_W zb_W_forgetFrom p s m args c) (hr : meth.sig.returnType = none) (hml : c.maxLocals = 4) (hlocks : meth.locks = false) (σ : cS) (n : Nat) (hB : cB σ) : ∀ (j u : Nat), u + j = cT_opened σ → ∀ (τ : cS), τ = cFF σ n u → ∀ (H : Heap) (locs : List Loc) (ls : Array Slot), va_P K.1 zcl (cW K G τ) H → va_S A s.heap H locs → lv_has ls 4 [(2, .int (nI u)), (0, .ref (G 0)), (1, .int (nI n))] → W p l e (zrm 2) s m args below meth c H locs 0 0 (MQ below (zPost K A (cW K G (cFF σ n (cT_opened σ))) none) args s 0 0 A) (F0 m 2 ls []) := by
  intro j
  induction j with
  | zero =>
    intro u hi τ hτ H locs ls hP hS hl
    have hTA : cSame τ σ := by rw [hτ]; exact cFF_same σ n u
    have hoT := hTA.oT
    have hoA := hTA.oA
    have hBT := hB.1
    have hBt : cB τ := cB_same hTA hB
    refine lv_iload_n X.1 X.2.1 zd_W_forgetFrom_2 rfl (lv_at hl 0 rfl) ?_
    refine lv_aload_n X.1 X.2.1 zd_W_forgetFrom_3 rfl (lv_at hl 1 rfl) ?_
    refine g_cW_targets X hP zd_W_forgetFrom_4 ?_
    refine z_callVi (As := []) (rest := [.int (nI u)]) (q0 := 1) (ci := 0) X hml (k_T_count l K G A hD τ ) (zk_W_212 X.2.2.2.1 (z_rm (by omega) (by decide))) rfl rfl rfl hP hS rfl hl.1 rfl (Nat.le_of_ble_eq_true rfl) zd_W_forgetFrom_7 ⟨Nat.zero_le _, Nat.zero_le _⟩ (fun H locs hP hS => ?_)
    refine z_top (congrArg nI hoT) ?_
    refine lv_icmp_ge (tgt := 67) X.1 X.2.1 zd_W_forgetFrom_10 (by decide) (fun _ => ?_) (fun h9 => absurd (by rw [nI_leI (by omega) (by omega)]; omega) h9)
    exact z_vret X.1 X.2.1 hr hlocks (by rw [hτ, show u = cT_opened σ by omega]) hP hS zd_W_forgetFrom_67
  | succ j ih =>
    intro u hi τ hτ H locs ls hP hS hl
    have hTA : cSame τ σ := by rw [hτ]; exact cFF_same σ n u
    have hoT := hTA.oT
    have hoA := hTA.oA
    have hBT := hB.1
    have hBt : cB τ := cB_same hTA hB
    refine lv_iload_n X.1 X.2.1 zd_W_forgetFrom_2 rfl (lv_at hl 0 rfl) ?_
    refine lv_aload_n X.1 X.2.1 zd_W_forgetFrom_3 rfl (lv_at hl 1 rfl) ?_
    refine g_cW_targets X hP zd_W_forgetFrom_4 ?_
    refine z_callVi (As := []) (rest := [.int (nI u)]) (q0 := 1) (ci := 0) X hml (k_T_count l K G A hD τ ) (zk_W_212 X.2.2.2.1 (z_rm (by omega) (by decide))) rfl rfl rfl hP hS rfl hl.1 rfl (Nat.le_of_ble_eq_true rfl) zd_W_forgetFrom_7 ⟨Nat.zero_le _, Nat.zero_le _⟩ (fun H locs hP hS => ?_)
    refine z_top (congrArg nI hoT) ?_
    refine lv_icmp_ge (tgt := 67) X.1 X.2.1 zd_W_forgetFrom_10 (by decide) (fun h9 => absurd h9 (by rw [nI_leI (by omega) (by omega)]; omega)) (fun _ => ?_)
    refine lv_aload_n X.1 X.2.1 zd_W_forgetFrom_13 rfl (lv_at hl 1 rfl) ?_
    refine g_cW_targets X hP zd_W_forgetFrom_14 ?_
    refine lv_iload_n X.1 X.2.1 zd_W_forgetFrom_17 rfl (lv_at hl 0 rfl) ?_
    refine lv_iload_n X.1 X.2.1 zd_W_forgetFrom_18 rfl (lv_at hl 2 rfl) ?_
    refine z_callVi (As := [.int (nI u), .int (nI n)]) (rest := []) (q0 := 1) (ci := 0) X hml (k_T_leadsTo l K G A hD τ u n (by omega)) (zk_W_215 X.2.2.2.1 (z_rm (by omega) (by decide))) rfl rfl rfl hP hS rfl hl.1 rfl (Nat.le_of_ble_eq_true rfl) zd_W_forgetFrom_19 ⟨Nat.zero_le _, Nat.zero_le _⟩ (fun H locs hP hS => ?_)
    refine lv_if_eq (tgt := 61) X.1 X.2.1 zd_W_forgetFrom_22 (by decide) (fun c1 => ?_) (fun c1 => ?_)
    · rw [z_eq0 (cLead_lt _ _)] at c1
      refine lv_iinc (v := nI (u + 1)) (lv' := [(2, .int (nI (u + 1))), (0, .ref (G 0)), (1, .int (nI n))]) X.1 X.2.1 zd_W_forgetFrom_61 hl (k := 0) rfl (nI_1 _) (by decide) rfl (fun ls hl => ?_)
      refine lv_goto (tgt := 2) X.1 X.2.1 zd_W_forgetFrom_64 (by decide) ?_
      exact ih (u + 1) (by omega) _ (by rw [cFF, ← hτ, if_pos c1]) H locs ls hP hS (lv_sub hl [0, 1, 2] rfl)
    · rw [z_eq0 (cLead_lt _ _)] at c1
      refine lv_iconst (v := nI 0) X.1 X.2.1 zd_W_forgetFrom_25 (by decide) ?_
      refine lv_istore_n (lv' := [(3, .int (nI 0)), (2, .int (nI u)), (0, .ref (G 0)), (1, .int (nI n))]) X.1 X.2.1 zd_W_forgetFrom_26 rfl hl (by decide) rfl (fun ls hl => ?_)
      refine q_W_forgetFrom_i l K G A hD X hr hml hlocks τ u n (by omega) hBt (fun H locs ls hP hS hl => ?_) (cA_opened τ) 0 (Nat.zero_add _) _ rfl H locs ls hP hS (lv_sub hl [0, 1, 2, 3] rfl)
      refine lv_iinc (v := nI (u + 1)) (lv' := [(2, .int (nI (u + 1))), (0, .ref (G 0)), (1, .int (nI n))]) X.1 X.2.1 zd_W_forgetFrom_61 hl (k := 0) rfl (nI_1 _) (by decide) rfl (fun ls hl => ?_)
      refine lv_goto (tgt := 2) X.1 X.2.1 zd_W_forgetFrom_64 (by decide) ?_
      exact ih (u + 1) (by omega) _ (by rw [cFF, ← hτ, if_neg c1, hoA]) H locs ls hP hS (lv_sub hl [0, 1, 2] rfl)

set_option maxHeartbeats 4000000 in
set_option maxRecDepth 100000 in
/-- forgetFrom(n) -/
theorem k_W_forgetFrom (l : Launch) (K : zK) (G : Nat → Nat) (A : Nat → Prop) (hD : ∀ σ, va_D A (cW K G σ)) (σ : cS) (n : Nat) (hB : cB σ) : zMet l K A zy_W_forgetFrom zws_W_forgetFrom 2 [.ref (G 0), .int (nI n)] (cW K G σ) (cW K G (cFF σ n (cT_opened σ))) none := by
  refine z_entry (by decide) (Nat.le_of_ble_eq_true rfl) ?_
  intro p e s m below meth c ls X hr hml hlocks hP hl
  have hS : va_S A s.heap s.heap [] := va_S.rf
  have hl : lv_has ls 4 [(0, .ref (G 0)), (1, .int (nI n))] := hl
  refine lv_iconst (v := nI 0) X.1 X.2.1 zd_W_forgetFrom_0 (by decide) ?_
  refine lv_istore_n (lv' := [(2, .int (nI 0)), (0, .ref (G 0)), (1, .int (nI n))]) X.1 X.2.1 zd_W_forgetFrom_1 rfl hl (by decide) rfl (fun ls hl => ?_)
  exact q_W_forgetFrom l K G A hD X hr hml hlocks σ n hB (cT_opened σ) 0 (Nat.zero_add _) _ rfl s.heap [] ls hP hS (lv_sub hl [0, 1, 2] rfl)

set_option maxHeartbeats 4000000 in
set_option maxRecDepth 100000 in
/-- forgetAllOf's inner loop -/
theorem q_W_forgetAllOf_i {p : Program} {e : Env} {s : State} {m : MethodId} {args : Array Value} {below : List Frame} {meth : Method} {c : Code} {Q : State → Prop} (l : Launch) (K : zK) (G : Nat → Nat) (A : Nat → Prop) (hD : ∀ σ, va_D A (cW K G σ)) (X : zFx K zR_W zb_W_forgetAllOf p s m args c) (hr : meth.sig.returnType = none) (hml : c.maxLocals = 4) (hlocks : meth.locks = false) (σ : cS) (b n : Nat) (hb : b < 8) (hB : cB σ) (kont : ∀ (H : Heap) (locs : List Loc) (ls : Array Slot), va_P K.1 zcl (cW K G (cFAi σ b (cT_opened σ))) H → va_S A s.heap H locs → lv_has ls 4 [(2, .int (nI b)), (0, .ref (G 0)), (1, .int (nI n))] → W p l e (zrm 2) s m args below meth c H locs 0 0 Q (F0 m 61 ls [])) : ∀ (j i : Nat), i + j = cT_opened σ → ∀ (τ : cS), τ = cFAi σ b i → ∀ (H : Heap) (locs : List Loc) (ls : Array Slot), va_P K.1 zcl (cW K G τ) H → va_S A s.heap H locs → lv_has ls 4 [(3, .int (nI i)), (2, .int (nI b)), (0, .ref (G 0)), (1, .int (nI n))] → W p l e (zrm 2) s m args below meth c H locs 0 0 Q (F0 m 27 ls []) := by
  intro j
  induction j with
  | zero =>
    intro i hi τ hτ H locs ls hP hS hl
    have hTA : cSame τ σ := by rw [hτ]; exact cFAi_same σ b i
    have hoT := hTA.oT
    have hn9 : cA_names τ b = -1 ∨ ∃ q, q < 10 ∧ cA_names τ b = nI q := by rw [hTA.nm]; exact hB.2.2.2.2.2.2.2.2 b
    have hB8 := hB.1
    refine lv_iload_n X.1 X.2.1 zd_W_forgetAllOf_27 rfl (lv_at hl 0 rfl) ?_
    refine lv_aload_n X.1 X.2.1 zd_W_forgetAllOf_28 rfl (lv_at hl 2 rfl) ?_
    refine g_cW_targets X hP zd_W_forgetAllOf_29 ?_
    refine z_callVi (As := []) (rest := [.int (nI i)]) (q0 := 1) (ci := 0) X hml (k_T_count l K G A hD τ ) (zk_W_212 X.2.2.2.1 (z_rm (by omega) (by decide))) rfl rfl rfl hP hS rfl hl.1 rfl (Nat.le_of_ble_eq_true rfl) zd_W_forgetAllOf_32 ⟨Nat.zero_le _, Nat.zero_le _⟩ (fun H locs hP hS => ?_)
    refine z_top (congrArg nI hoT) ?_
    refine lv_icmp_ge (tgt := 61) X.1 X.2.1 zd_W_forgetAllOf_35 (by decide) (fun _ => ?_) (fun h9 => absurd (by rw [nI_leI (by omega) (by omega)]; omega) h9)
    exact kont H locs ls (by have h9 := hP; rw [hτ, show i = cT_opened σ by omega] at h9; exact h9) hS (by have h9 := hl; rw [show i = cT_opened σ by omega] at h9; exact lv_sub h9 [1, 2, 3] rfl)
  | succ j ih =>
    intro i hi τ hτ H locs ls hP hS hl
    have hTA : cSame τ σ := by rw [hτ]; exact cFAi_same σ b i
    have hoT := hTA.oT
    have hn9 : cA_names τ b = -1 ∨ ∃ q, q < 10 ∧ cA_names τ b = nI q := by rw [hTA.nm]; exact hB.2.2.2.2.2.2.2.2 b
    have hB8 := hB.1
    refine lv_iload_n X.1 X.2.1 zd_W_forgetAllOf_27 rfl (lv_at hl 0 rfl) ?_
    refine lv_aload_n X.1 X.2.1 zd_W_forgetAllOf_28 rfl (lv_at hl 2 rfl) ?_
    refine g_cW_targets X hP zd_W_forgetAllOf_29 ?_
    refine z_callVi (As := []) (rest := [.int (nI i)]) (q0 := 1) (ci := 0) X hml (k_T_count l K G A hD τ ) (zk_W_212 X.2.2.2.1 (z_rm (by omega) (by decide))) rfl rfl rfl hP hS rfl hl.1 rfl (Nat.le_of_ble_eq_true rfl) zd_W_forgetAllOf_32 ⟨Nat.zero_le _, Nat.zero_le _⟩ (fun H locs hP hS => ?_)
    refine z_top (congrArg nI hoT) ?_
    refine lv_icmp_ge (tgt := 61) X.1 X.2.1 zd_W_forgetAllOf_35 (by decide) (fun h9 => absurd h9 (by rw [nI_leI (by omega) (by omega)]; omega)) (fun _ => ?_)
    refine lv_aload_n X.1 X.2.1 zd_W_forgetAllOf_38 rfl (lv_at hl 2 rfl) ?_
    refine g_cW_memory X hP zd_W_forgetAllOf_39 ?_
    refine lv_iload_n X.1 X.2.1 zd_W_forgetAllOf_42 rfl (lv_at hl 0 rfl) ?_
    refine lv_iload_n X.1 X.2.1 zd_W_forgetAllOf_43 rfl (lv_at hl 1 rfl) ?_
    refine lv_aload_n X.1 X.2.1 zd_W_forgetAllOf_44 rfl (lv_at hl 2 rfl) ?_
    refine g_cW_aspects X hP zd_W_forgetAllOf_45 ?_
    refine lv_iload_n X.1 X.2.1 zd_W_forgetAllOf_48 rfl (lv_at hl 1 rfl) ?_
    refine z_callVi (As := [.int (nI b)]) (rest := [.int (nI b), .int (nI i), .ref (G 3)]) (q0 := 2) (ci := 1) X hml (k_A_nameOf l K G A hD τ b (by omega)) (zk_W_176 X.2.2.2.1 (z_rm (by omega) (by decide))) rfl rfl rfl hP hS rfl hl.1 rfl (Nat.le_of_ble_eq_true rfl) zd_W_forgetAllOf_49 ⟨Nat.zero_le _, Nat.zero_le _⟩ (fun H locs hP hS => ?_)
    refine z_callVv (As := [.int (nI i), .int (nI b), .int (cA_names τ b)]) (rest := []) (q0 := 3) (ci := 2) X hml (k_M_forget l K G A hD τ i b (cA_names τ b) (by omega) (by omega) (by assumption)) (zk_W_217 X.2.2.2.1 (z_rm (by omega) (by decide))) rfl rfl rfl hP hS rfl hl.1 rfl (Nat.le_of_ble_eq_true rfl) zd_W_forgetAllOf_52 ⟨Nat.zero_le _, Nat.zero_le _⟩ (fun H locs hP hS => ?_)
    refine lv_iinc (v := nI (i + 1)) (lv' := [(3, .int (nI (i + 1))), (2, .int (nI b)), (0, .ref (G 0)), (1, .int (nI n))]) X.1 X.2.1 zd_W_forgetAllOf_55 hl (k := 0) rfl (nI_1 _) (by decide) rfl (fun ls hl => ?_)
    refine lv_goto (tgt := 27) X.1 X.2.1 zd_W_forgetAllOf_58 (by decide) ?_
    exact ih (i + 1) (by omega) _ (by rw [hτ]; rfl) H locs ls hP hS (lv_sub hl [0, 1, 2, 3] rfl)

set_option maxHeartbeats 4000000 in
set_option maxRecDepth 100000 in
/-- forgetAllOf's outer loop -/
theorem q_W_forgetAllOf {p : Program} {e : Env} {s : State} {m : MethodId} {args : Array Value} {below : List Frame} {meth : Method} {c : Code} (l : Launch) (K : zK) (G : Nat → Nat) (A : Nat → Prop) (hD : ∀ σ, va_D A (cW K G σ)) (X : zFx K zR_W zb_W_forgetAllOf p s m args c) (hr : meth.sig.returnType = none) (hml : c.maxLocals = 4) (hlocks : meth.locks = false) (σ : cS) (n : Nat) (hB : cB σ) : ∀ (j b : Nat), b + j = cA_opened σ → ∀ (τ : cS), τ = cFA σ n b → ∀ (H : Heap) (locs : List Loc) (ls : Array Slot), va_P K.1 zcl (cW K G τ) H → va_S A s.heap H locs → lv_has ls 4 [(2, .int (nI b)), (0, .ref (G 0)), (1, .int (nI n))] → W p l e (zrm 2) s m args below meth c H locs 0 0 (MQ below (zPost K A (cW K G (cFA σ n (cA_opened σ))) none) args s 0 0 A) (F0 m 2 ls []) := by
  intro j
  induction j with
  | zero =>
    intro b hi τ hτ H locs ls hP hS hl
    have hTA : cSame τ σ := by rw [hτ]; exact cFA_same σ n b
    have hoT := hTA.oT
    have hoA := hTA.oA
    have hBT := hB.2.1
    have hBt : cB τ := cB_same hTA hB
    refine lv_iload_n X.1 X.2.1 zd_W_forgetAllOf_2 rfl (lv_at hl 0 rfl) ?_
    refine lv_aload_n X.1 X.2.1 zd_W_forgetAllOf_3 rfl (lv_at hl 1 rfl) ?_
    refine g_cW_aspects X hP zd_W_forgetAllOf_4 ?_
    refine z_callVi (As := []) (rest := [.int (nI b)]) (q0 := 2) (ci := 1) X hml (k_A_count l K G A hD τ ) (zk_W_216 X.2.2.2.1 (z_rm (by omega) (by decide))) rfl rfl rfl hP hS rfl hl.1 rfl (Nat.le_of_ble_eq_true rfl) zd_W_forgetAllOf_7 ⟨Nat.zero_le _, Nat.zero_le _⟩ (fun H locs hP hS => ?_)
    refine z_top (congrArg nI hoA) ?_
    refine lv_icmp_ge (tgt := 67) X.1 X.2.1 zd_W_forgetAllOf_10 (by decide) (fun _ => ?_) (fun h9 => absurd (by rw [nI_leI (by omega) (by omega)]; omega) h9)
    exact z_vret X.1 X.2.1 hr hlocks (by rw [hτ, show b = cA_opened σ by omega]) hP hS zd_W_forgetAllOf_67
  | succ j ih =>
    intro b hi τ hτ H locs ls hP hS hl
    have hTA : cSame τ σ := by rw [hτ]; exact cFA_same σ n b
    have hoT := hTA.oT
    have hoA := hTA.oA
    have hBT := hB.2.1
    have hBt : cB τ := cB_same hTA hB
    refine lv_iload_n X.1 X.2.1 zd_W_forgetAllOf_2 rfl (lv_at hl 0 rfl) ?_
    refine lv_aload_n X.1 X.2.1 zd_W_forgetAllOf_3 rfl (lv_at hl 1 rfl) ?_
    refine g_cW_aspects X hP zd_W_forgetAllOf_4 ?_
    refine z_callVi (As := []) (rest := [.int (nI b)]) (q0 := 2) (ci := 1) X hml (k_A_count l K G A hD τ ) (zk_W_216 X.2.2.2.1 (z_rm (by omega) (by decide))) rfl rfl rfl hP hS rfl hl.1 rfl (Nat.le_of_ble_eq_true rfl) zd_W_forgetAllOf_7 ⟨Nat.zero_le _, Nat.zero_le _⟩ (fun H locs hP hS => ?_)
    refine z_top (congrArg nI hoA) ?_
    refine lv_icmp_ge (tgt := 67) X.1 X.2.1 zd_W_forgetAllOf_10 (by decide) (fun h9 => absurd h9 (by rw [nI_leI (by omega) (by omega)]; omega)) (fun _ => ?_)
    refine lv_aload_n X.1 X.2.1 zd_W_forgetAllOf_13 rfl (lv_at hl 1 rfl) ?_
    refine g_cW_aspects X hP zd_W_forgetAllOf_14 ?_
    refine lv_iload_n X.1 X.2.1 zd_W_forgetAllOf_17 rfl (lv_at hl 0 rfl) ?_
    refine lv_iload_n X.1 X.2.1 zd_W_forgetAllOf_18 rfl (lv_at hl 2 rfl) ?_
    refine z_callVi (As := [.int (nI b), .int (nI n)]) (rest := []) (q0 := 2) (ci := 1) X hml (k_A_leadsTo l K G A hD τ b n (by omega)) (zk_W_81 X.2.2.2.1 (z_rm (by omega) (by decide))) rfl rfl rfl hP hS rfl hl.1 rfl (Nat.le_of_ble_eq_true rfl) zd_W_forgetAllOf_19 ⟨Nat.zero_le _, Nat.zero_le _⟩ (fun H locs hP hS => ?_)
    refine lv_if_eq (tgt := 61) X.1 X.2.1 zd_W_forgetAllOf_22 (by decide) (fun c1 => ?_) (fun c1 => ?_)
    · rw [z_eq0 (cLead_lt _ _)] at c1
      refine lv_iinc (v := nI (b + 1)) (lv' := [(2, .int (nI (b + 1))), (0, .ref (G 0)), (1, .int (nI n))]) X.1 X.2.1 zd_W_forgetAllOf_61 hl (k := 0) rfl (nI_1 _) (by decide) rfl (fun ls hl => ?_)
      refine lv_goto (tgt := 2) X.1 X.2.1 zd_W_forgetAllOf_64 (by decide) ?_
      exact ih (b + 1) (by omega) _ (by rw [cFA, ← hτ, if_pos c1]) H locs ls hP hS (lv_sub hl [0, 1, 2] rfl)
    · rw [z_eq0 (cLead_lt _ _)] at c1
      refine lv_iconst (v := nI 0) X.1 X.2.1 zd_W_forgetAllOf_25 (by decide) ?_
      refine lv_istore_n (lv' := [(3, .int (nI 0)), (2, .int (nI b)), (0, .ref (G 0)), (1, .int (nI n))]) X.1 X.2.1 zd_W_forgetAllOf_26 rfl hl (by decide) rfl (fun ls hl => ?_)
      refine q_W_forgetAllOf_i l K G A hD X hr hml hlocks τ b n (by omega) hBt (fun H locs ls hP hS hl => ?_) (cT_opened τ) 0 (Nat.zero_add _) _ rfl H locs ls hP hS (lv_sub hl [0, 1, 2, 3] rfl)
      refine lv_iinc (v := nI (b + 1)) (lv' := [(2, .int (nI (b + 1))), (0, .ref (G 0)), (1, .int (nI n))]) X.1 X.2.1 zd_W_forgetAllOf_61 hl (k := 0) rfl (nI_1 _) (by decide) rfl (fun ls hl => ?_)
      refine lv_goto (tgt := 2) X.1 X.2.1 zd_W_forgetAllOf_64 (by decide) ?_
      exact ih (b + 1) (by omega) _ (by rw [cFA, ← hτ, if_neg c1, hoT]) H locs ls hP hS (lv_sub hl [0, 1, 2] rfl)

set_option maxHeartbeats 4000000 in
set_option maxRecDepth 100000 in
/-- forgetAllOf(n) -/
theorem k_W_forgetAllOf (l : Launch) (K : zK) (G : Nat → Nat) (A : Nat → Prop) (hD : ∀ σ, va_D A (cW K G σ)) (σ : cS) (n : Nat) (hB : cB σ) : zMet l K A zy_W_forgetAllOf zws_W_forgetAllOf 2 [.ref (G 0), .int (nI n)] (cW K G σ) (cW K G (cFA σ n (cA_opened σ))) none := by
  refine z_entry (by decide) (Nat.le_of_ble_eq_true rfl) ?_
  intro p e s m below meth c ls X hr hml hlocks hP hl
  have hS : va_S A s.heap s.heap [] := va_S.rf
  have hl : lv_has ls 4 [(0, .ref (G 0)), (1, .int (nI n))] := hl
  refine lv_iconst (v := nI 0) X.1 X.2.1 zd_W_forgetAllOf_0 (by decide) ?_
  refine lv_istore_n (lv' := [(2, .int (nI 0)), (0, .ref (G 0)), (1, .int (nI n))]) X.1 X.2.1 zd_W_forgetAllOf_1 rfl hl (by decide) rfl (fun ls hl => ?_)
  exact q_W_forgetAllOf l K G A hD X hr hml hlocks σ n hB (cA_opened σ) 0 (Nat.zero_add _) _ rfl s.heap [] ls hP hS (lv_sub hl [0, 1, 2] rfl)
end
section
/-! the doing of the class (by program: wip/gen/wdoing.py) -/
abbrev cMu : Type := cMS × (Nat → Int32)
/-- one after another, till one ends all -/
def dLoop (f : cMu → Nat → Int32 × cMu) : Nat → Nat → cMu → Int32 × cMu
  | 0, _, μ => (nI 1, μ)
  | j + 1, i, μ => if 0 ≤ (f μ i).1 then dLoop f j (i + 1) (f μ i).2 else f μ i
def dBelow (f : cMu → Nat → Nat → Int32 × cMu) (len : Nat → Nat) : Nat → Nat → cMu → Int32 × cMu
  | 0, _, μ => (nI 1, μ)
  | j + 1, z, μ => if 0 ≤ (dLoop (fun μ i => f μ z i) (len z) 0 μ).1 then dBelow f len j (z + 1) (dLoop (fun μ i => f μ z i) (len z) 0 μ).2 else dLoop (fun μ i => f μ z i) (len z) 0 μ
/-- the end of a doing: its output and its result -/
def cFin (σ : cS) (t a k : Nat) : Int32 × cMu := if (cMake σ t a k).1 = 0 then (-2, (cMake σ t a k).2.2.2) else (nI 1, (cKeepDone (cMake σ t a k).2 t a k (cJoined (cMake σ t a k).2 t a k)).2.2)
/-- the doing, with d levels left -/
def cDo (T : cTS) (A : cAS) : Nat → cMu → Nat → Nat → Nat → Int32 × cMu
  | 0, μ, _, _, _ => (-1, μ)
  | d + 1, μ, t, a, k =>
    if cKnown (T, A, μ) t a k = -1 then
      if 0 ≤ (dLoop (fun μ i => cDo T A d μ t (cA_needs (T, A, μ) (a * 3 + i)) k) (cA_needCounts (T, A, μ) a) 0 μ).1 then
        if cLacks (T, A, (dLoop (fun μ i => cDo T A d μ t (cA_needs (T, A, μ) (a * 3 + i)) k) (cA_needCounts (T, A, μ) a) 0 μ).2) t a k = 0 then
          if 0 ≤ (dBelow (fun μ z i => cDo T A d μ (cT_rows (T, A, μ) ((t * 3 + z) * 4 + i)) a k) (cLen (T, A, μ) t a) 3 0 (dLoop (fun μ i => cDo T A d μ t (cA_needs (T, A, μ) (a * 3 + i)) k) (cA_needCounts (T, A, μ) a) 0 μ).2).1 then
            cFin (T, A, (dBelow (fun μ z i => cDo T A d μ (cT_rows (T, A, μ) ((t * 3 + z) * 4 + i)) a k) (cLen (T, A, μ) t a) 3 0 (dLoop (fun μ i => cDo T A d μ t (cA_needs (T, A, μ) (a * 3 + i)) k) (cA_needCounts (T, A, μ) a) 0 μ).2).2) t a k
          else dBelow (fun μ z i => cDo T A d μ (cT_rows (T, A, μ) ((t * 3 + z) * 4 + i)) a k) (cLen (T, A, μ) t a) 3 0 (dLoop (fun μ i => cDo T A d μ t (cA_needs (T, A, μ) (a * 3 + i)) k) (cA_needCounts (T, A, μ) a) 0 μ).2
        else (nI 0, (cKeepPassed (T, A, (dLoop (fun μ i => cDo T A d μ t (cA_needs (T, A, μ) (a * 3 + i)) k) (cA_needCounts (T, A, μ) a) 0 μ).2) t a k).2.2)
      else dLoop (fun μ i => cDo T A d μ t (cA_needs (T, A, μ) (a * 3 + i)) k) (cA_needCounts (T, A, μ) a) 0 μ
    else (cKnown (T, A, μ) t a k, μ)
theorem cMake_eta (T : cTS) (A : cAS) (μ : cMu) (t a k : Nat) : (cMake (T, A, μ) t a k).2 = (T, A, (cMake (T, A, μ) t a k).2.2.2) := by
  unfold cMake
  split
  · rfl
  · split
    · rfl
    · rfl
/-- the contract of doing at a depth -/
def cDoing (l : Launch) (K : zK) (G : Nat → Nat) (A : Nat → Prop) (T : cTS) (S : cAS) (d dp : Nat) : Prop :=
  ∀ (μ : cMu) (t a k : Nat), t < 20 → a < 8 → k < 16 → zMet l K A zy_W_doing zws_W_doing (2 * d + 6) [.ref (G 0), .int (nI t), .int (nI a), .int (nI k), .int (nI dp)] (cW K G (T, S, μ)) (cW K G (T, S, (cDo T S d μ t a k).2)) (some (.int (cDo T S d μ t a k).1))

set_option maxHeartbeats 4000000 in
set_option maxRecDepth 100000 in
/-- doNeeds' loop -/
theorem q_W_doNeeds {p : Program} {e : Env} {s : State} {m : MethodId} {args : Array Value} {below : List Frame} {meth : Method} {c : Code} (l : Launch) (K : zK) (G : Nat → Nat) (A : Nat → Prop) (hD : ∀ σ, va_D A (cW K G σ)) (X : zFx K zR_W zb_W_doNeeds p s m args c) (hr : meth.sig.returnType = some .int) (hml : c.maxLocals = 7) (hlocks : meth.locks = false) (T : cTS) (S : cAS) (d dp : Nat) (hdo : cDoing l K G A T S d (dp + 1)) (t a k : Nat) (ht : t < 20) (ha : a < 8) (hk : k < 16) (hdp : dp < 100) (hB : ∀ μ, cB (T, S, μ)) : ∀ (j i : Nat) (μ : cMu), i + j = cA_needCounts (T, S, μ) a → ∀ (H : Heap) (locs : List Loc) (ls : Array Slot), va_P K.1 zcl (cW K G (T, S, μ)) H → va_S A s.heap H locs → lv_has ls 7 [(5, .int (nI i)), (0, .ref (G 0)), (1, .int (nI t)), (2, .int (nI a)), (3, .int (nI k)), (4, .int (nI dp))] → W p l e (zrm (2 * d + 7)) s m args below meth c H locs 0 0 (MQ below (zPost K A (cW K G (T, S, (dLoop (fun μ i => cDo T S d μ t (cA_needs (T, S, μ) (a * 3 + i)) k) j i μ).2)) (some (.int (dLoop (fun μ i => cDo T S d μ t (cA_needs (T, S, μ) (a * 3 + i)) k) j i μ).1))) args s 0 0 A) (F0 m 3 ls []) := by
  intro j
  induction j with
  | zero =>
    intro i μ hi H locs ls hP hS hl
    have hB1 := (hB μ).2.2.2.2.2.1 (a * 3 + i)
    have hB2 := (hB μ).2.2.2.2.2.2.1 a
    refine lv_iload X.1 X.2.1 zd_W_doNeeds_3 (lv_at hl 0 rfl) ?_
    refine lv_aload_n X.1 X.2.1 zd_W_doNeeds_5 rfl (lv_at hl 1 rfl) ?_
    refine g_cW_aspects X hP zd_W_doNeeds_6 ?_
    refine lv_iload_n X.1 X.2.1 zd_W_doNeeds_9 rfl (lv_at hl 3 rfl) ?_
    refine z_callVi (As := [.int (nI a)]) (rest := [.int (nI i)]) (q0 := 2) (ci := 1) X hml (k_A_needCount l K G A hD (T, S, μ) a (by omega)) (zk_W_78 X.2.2.2.1 (z_rm (by omega) (by decide))) rfl rfl rfl hP hS rfl hl.1 rfl (Nat.le_of_ble_eq_true rfl) zd_W_doNeeds_10 ⟨Nat.zero_le _, Nat.zero_le _⟩ (fun H locs hP hS => ?_)
    refine lv_icmp_ge (tgt := 52) X.1 X.2.1 zd_W_doNeeds_13 (by decide) (fun _ => ?_) (fun h9 => absurd (by rw [nI_leI (by omega) (by omega)]; omega) h9)
    refine lv_iconst (v := nI 1) X.1 X.2.1 zd_W_doNeeds_52 (by decide) ?_
    exact z_iret X.1 X.2.1 hr hlocks rfl rfl hP hS zd_W_doNeeds_53
  | succ j ih =>
    intro i μ hi H locs ls hP hS hl
    have hB1 := (hB μ).2.2.2.2.2.1 (a * 3 + i)
    have hB2 := (hB μ).2.2.2.2.2.2.1 a
    refine lv_iload X.1 X.2.1 zd_W_doNeeds_3 (lv_at hl 0 rfl) ?_
    refine lv_aload_n X.1 X.2.1 zd_W_doNeeds_5 rfl (lv_at hl 1 rfl) ?_
    refine g_cW_aspects X hP zd_W_doNeeds_6 ?_
    refine lv_iload_n X.1 X.2.1 zd_W_doNeeds_9 rfl (lv_at hl 3 rfl) ?_
    refine z_callVi (As := [.int (nI a)]) (rest := [.int (nI i)]) (q0 := 2) (ci := 1) X hml (k_A_needCount l K G A hD (T, S, μ) a (by omega)) (zk_W_78 X.2.2.2.1 (z_rm (by omega) (by decide))) rfl rfl rfl hP hS rfl hl.1 rfl (Nat.le_of_ble_eq_true rfl) zd_W_doNeeds_10 ⟨Nat.zero_le _, Nat.zero_le _⟩ (fun H locs hP hS => ?_)
    refine lv_icmp_ge (tgt := 52) X.1 X.2.1 zd_W_doNeeds_13 (by decide) (fun h9 => absurd h9 (by rw [nI_leI (by omega) (by omega)]; omega)) (fun _ => ?_)
    refine lv_aload_n X.1 X.2.1 zd_W_doNeeds_16 rfl (lv_at hl 1 rfl) ?_
    refine lv_iload_n X.1 X.2.1 zd_W_doNeeds_17 rfl (lv_at hl 2 rfl) ?_
    refine lv_aload_n X.1 X.2.1 zd_W_doNeeds_18 rfl (lv_at hl 1 rfl) ?_
    refine g_cW_aspects X hP zd_W_doNeeds_19 ?_
    refine lv_iload_n X.1 X.2.1 zd_W_doNeeds_22 rfl (lv_at hl 3 rfl) ?_
    refine lv_iload X.1 X.2.1 zd_W_doNeeds_23 (lv_at hl 0 rfl) ?_
    refine z_callVi (As := [.int (nI a), .int (nI i)]) (rest := [.int (nI t), .ref (G 0)]) (q0 := 2) (ci := 1) X hml (k_A_needAt l K G A hD (T, S, μ) a i (by omega) (by omega)) (zk_W_152 X.2.2.2.1 (z_rm (by omega) (by decide))) rfl rfl rfl hP hS rfl hl.1 rfl (Nat.le_of_ble_eq_true rfl) zd_W_doNeeds_25 ⟨Nat.zero_le _, Nat.zero_le _⟩ (fun H locs hP hS => ?_)
    refine lv_iload_n X.1 X.2.1 zd_W_doNeeds_28 rfl (lv_at hl 4 rfl) ?_
    refine lv_iload X.1 X.2.1 zd_W_doNeeds_29 (lv_at hl 5 rfl) ?_
    refine lv_iconst (v := nI 1) X.1 X.2.1 zd_W_doNeeds_31 (by decide) ?_
    refine lv_iadd X.1 X.2.1 zd_W_doNeeds_32 ?_
    refine z_top (nI_add _ _) ?_
    refine z_callVi (As := [.int (nI t), .int (nI (cA_needs (T, S, μ) (a * 3 + i))), .int (nI k), .int (nI (dp + 1))]) (rest := []) (q0 := 0) (ci := 3) X hml (hdo μ t (cA_needs (T, S, μ) (a * 3 + i)) k (by omega) (by omega) (by omega)) (zk_W_94 X.2.2.2.1 (z_rm (by omega) (by decide))) rfl rfl rfl hP hS rfl hl.1 rfl (Nat.le_of_ble_eq_true rfl) zd_W_doNeeds_33 ⟨Nat.zero_le _, Nat.zero_le _⟩ (fun H locs hP hS => ?_)
    refine lv_istore (lv' := [(6, .int ((cDo T S d μ t (cA_needs (T, S, μ) (a * 3 + i)) k).1)), (5, .int (nI i)), (0, .ref (G 0)), (1, .int (nI t)), (2, .int (nI a)), (3, .int (nI k)), (4, .int (nI dp))]) X.1 X.2.1 zd_W_doNeeds_36 hl (by decide) rfl (fun ls hl => ?_)
    refine lv_iload X.1 X.2.1 zd_W_doNeeds_38 (lv_at hl 0 rfl) ?_
    refine lv_if_ge (tgt := 46) X.1 X.2.1 zd_W_doNeeds_40 (by decide) (fun c1 => ?_) (fun c1 => ?_)
    · refine lv_iinc (v := nI (i + 1)) (lv' := [(5, .int (nI (i + 1))), (6, .int ((cDo T S d μ t (cA_needs (T, S, μ) (a * 3 + i)) k).1)), (0, .ref (G 0)), (1, .int (nI t)), (2, .int (nI a)), (3, .int (nI k)), (4, .int (nI dp))]) X.1 X.2.1 zd_W_doNeeds_46 hl (k := 1) rfl (nI_1 _) (by decide) rfl (fun ls hl => ?_)
      refine lv_goto (tgt := 3) X.1 X.2.1 zd_W_doNeeds_49 (by decide) ?_
      rw [show dLoop (fun μ i => cDo T S d μ t (cA_needs (T, S, μ) (a * 3 + i)) k) (j + 1) i μ = dLoop (fun μ i => cDo T S d μ t (cA_needs (T, S, μ) (a * 3 + i)) k) j (i + 1) ((fun μ i => cDo T S d μ t (cA_needs (T, S, μ) (a * 3 + i)) k) μ i).2 from by rw [dLoop]; exact if_pos c1]
      exact ih (i + 1) ((fun μ i => cDo T S d μ t (cA_needs (T, S, μ) (a * 3 + i)) k) μ i).2 (show i + 1 + j = cA_needCounts (T, S, μ) a by omega) H locs ls hP hS (lv_sub hl [0, 2, 3, 4, 5, 6] rfl)
    · refine lv_iload X.1 X.2.1 zd_W_doNeeds_43 (lv_at hl 0 rfl) ?_
      rw [show dLoop (fun μ i => cDo T S d μ t (cA_needs (T, S, μ) (a * 3 + i)) k) (j + 1) i μ = (fun μ i => cDo T S d μ t (cA_needs (T, S, μ) (a * 3 + i)) k) μ i from by rw [dLoop]; exact if_neg c1]
      exact z_iret X.1 X.2.1 hr hlocks rfl rfl hP hS zd_W_doNeeds_45

set_option maxHeartbeats 4000000 in
set_option maxRecDepth 100000 in
/-- doNeeds -/
theorem k_W_doNeeds (l : Launch) (K : zK) (G : Nat → Nat) (A : Nat → Prop) (hD : ∀ σ, va_D A (cW K G σ)) (T : cTS) (S : cAS) (d dp : Nat) (hdo : cDoing l K G A T S d (dp + 1)) (μ : cMu) (t a k : Nat) (ht : t < 20) (ha : a < 8) (hk : k < 16) (hdp : dp < 100) (hB : ∀ μ, cB (T, S, μ)) : zMet l K A zy_W_doNeeds zws_W_doNeeds (2 * d + 7) [.ref (G 0), .int (nI t), .int (nI a), .int (nI k), .int (nI dp)] (cW K G (T, S, μ)) (cW K G (T, S, (dLoop (fun μ i => cDo T S d μ t (cA_needs (T, S, μ) (a * 3 + i)) k) (cA_needCounts (T, S, μ) a) 0 μ).2)) (some (.int (dLoop (fun μ i => cDo T S d μ t (cA_needs (T, S, μ) (a * 3 + i)) k) (cA_needCounts (T, S, μ) a) 0 μ).1)) := by
  refine z_entry (by decide) (Nat.le_of_ble_eq_true rfl) ?_
  intro p e s m below meth c ls X hr hml hlocks hP hl
  have hS : va_S A s.heap s.heap [] := va_S.rf
  have hl : lv_has ls 7 [(0, .ref (G 0)), (1, .int (nI t)), (2, .int (nI a)), (3, .int (nI k)), (4, .int (nI dp))] := hl
  refine lv_iconst (v := nI 0) X.1 X.2.1 zd_W_doNeeds_0 (by decide) ?_
  refine lv_istore (lv' := [(5, .int (nI 0)), (0, .ref (G 0)), (1, .int (nI t)), (2, .int (nI a)), (3, .int (nI k)), (4, .int (nI dp))]) X.1 X.2.1 zd_W_doNeeds_1 hl (by decide) rfl (fun ls hl => ?_)
  exact q_W_doNeeds l K G A hD X hr hml hlocks T S d dp hdo t a k ht ha hk hdp hB (cA_needCounts (T, S, μ) a) 0 μ (Nat.zero_add _) s.heap [] ls hP hS (lv_sub hl [0, 1, 2, 3, 4, 5] rfl)

set_option maxHeartbeats 4000000 in
set_option maxRecDepth 100000 in
/-- doBelow's inner loop -/
theorem q_W_doBelow_i {p : Program} {e : Env} {s : State} {m : MethodId} {args : Array Value} {below : List Frame} {meth : Method} {c : Code} (l : Launch) (K : zK) (G : Nat → Nat) (A : Nat → Prop) (hD : ∀ σ, va_D A (cW K G σ)) (X : zFx K zR_W zb_W_doBelow p s m args c) (hr : meth.sig.returnType = some .int) (hml : c.maxLocals = 9) (hlocks : meth.locks = false) (T : cTS) (S : cAS) (d dp : Nat) (hdo : cDoing l K G A T S d (dp + 1)) (t a k : Nat) (ht : t < 20) (ha : a < 8) (hk : k < 16) (hdp : dp < 100) (hB : ∀ μ, cB (T, S, μ)) (z len : Nat) (hz : z < 3) (hlen : len ≤ 4) (F : Int32 × cMu) : ∀ (j i : Nat) (μ : cMu), i + j = len → (¬ 0 ≤ (dLoop (fun μ i => cDo T S d μ (cT_rows (T, S, μ) ((t * 3 + z) * 4 + i)) a k) j i μ).1 → F = dLoop (fun μ i => cDo T S d μ (cT_rows (T, S, μ) ((t * 3 + z) * 4 + i)) a k) j i μ) → (0 ≤ (dLoop (fun μ i => cDo T S d μ (cT_rows (T, S, μ) ((t * 3 + z) * 4 + i)) a k) j i μ).1 → ∀ (H : Heap) (locs : List Loc) (ls : Array Slot), va_P K.1 zcl (cW K G (T, S, (dLoop (fun μ i => cDo T S d μ (cT_rows (T, S, μ) ((t * 3 + z) * 4 + i)) a k) j i μ).2)) H → va_S A s.heap H locs → lv_has ls 9 [(5, .int (nI z)), (0, .ref (G 0)), (1, .int (nI t)), (2, .int (nI a)), (3, .int (nI k)), (4, .int (nI dp))] → W p l e (zrm (2 * d + 7)) s m args below meth c H locs 0 0 (MQ below (zPost K A (cW K G (T, S, F.2)) (some (.int F.1))) args s 0 0 A) (F0 m 67 ls [])) → ∀ (H : Heap) (locs : List Loc) (ls : Array Slot), va_P K.1 zcl (cW K G (T, S, μ)) H → va_S A s.heap H locs → lv_has ls 9 [(7, .int (nI i)), (6, .int (nI len)), (5, .int (nI z)), (0, .ref (G 0)), (1, .int (nI t)), (2, .int (nI a)), (3, .int (nI k)), (4, .int (nI dp))] → W p l e (zrm (2 * d + 7)) s m args below meth c H locs 0 0 (MQ below (zPost K A (cW K G (T, S, F.2)) (some (.int F.1))) args s 0 0 A) (F0 m 22 ls []) := by
  intro j
  induction j with
  | zero =>
    intro i μ hi hF kont H locs ls hP hS hl
    have hB1 := (hB μ).2.2.2.1 ((t * 3 + z) * 4 + i)
    refine lv_iload X.1 X.2.1 zd_W_doBelow_22 (lv_at hl 0 rfl) ?_
    refine lv_iload X.1 X.2.1 zd_W_doBelow_24 (lv_at hl 1 rfl) ?_
    refine lv_icmp_ge (tgt := 67) X.1 X.2.1 zd_W_doBelow_26 (by decide) (fun _ => ?_) (fun h9 => absurd (by rw [nI_leI (by omega) (by omega)]; omega) h9)
    exact kont (show (0 : Int32) ≤ nI 1 by decide) H locs ls hP hS (lv_sub hl [2, 3, 4, 5, 6, 7] rfl)
  | succ j ih =>
    intro i μ hi hF kont H locs ls hP hS hl
    have hB1 := (hB μ).2.2.2.1 ((t * 3 + z) * 4 + i)
    refine lv_iload X.1 X.2.1 zd_W_doBelow_22 (lv_at hl 0 rfl) ?_
    refine lv_iload X.1 X.2.1 zd_W_doBelow_24 (lv_at hl 1 rfl) ?_
    refine lv_icmp_ge (tgt := 67) X.1 X.2.1 zd_W_doBelow_26 (by decide) (fun h9 => absurd h9 (by rw [nI_leI (by omega) (by omega)]; omega)) (fun _ => ?_)
    refine lv_aload_n X.1 X.2.1 zd_W_doBelow_29 rfl (lv_at hl 3 rfl) ?_
    refine lv_aload_n X.1 X.2.1 zd_W_doBelow_30 rfl (lv_at hl 3 rfl) ?_
    refine g_cW_targets X hP zd_W_doBelow_31 ?_
    refine lv_iload_n X.1 X.2.1 zd_W_doBelow_34 rfl (lv_at hl 4 rfl) ?_
    refine lv_iload X.1 X.2.1 zd_W_doBelow_35 (lv_at hl 2 rfl) ?_
    refine lv_iload X.1 X.2.1 zd_W_doBelow_37 (lv_at hl 0 rfl) ?_
    refine z_callVi (As := [.int (nI t), .int (nI z), .int (nI i)]) (rest := [.ref (G 0)]) (q0 := 1) (ci := 0) X hml (k_T_rowAt l K G A hD (T, S, μ) t z i (by omega) (by omega) (by omega)) (zk_W_158 X.2.2.2.1 (z_rm (by omega) (by decide))) rfl rfl rfl hP hS rfl hl.1 rfl (Nat.le_of_ble_eq_true rfl) zd_W_doBelow_39 ⟨Nat.zero_le _, Nat.zero_le _⟩ (fun H locs hP hS => ?_)
    refine lv_iload_n X.1 X.2.1 zd_W_doBelow_42 rfl (lv_at hl 5 rfl) ?_
    refine lv_iload_n X.1 X.2.1 zd_W_doBelow_43 rfl (lv_at hl 6 rfl) ?_
    refine lv_iload X.1 X.2.1 zd_W_doBelow_44 (lv_at hl 7 rfl) ?_
    refine lv_iconst (v := nI 1) X.1 X.2.1 zd_W_doBelow_46 (by decide) ?_
    refine lv_iadd X.1 X.2.1 zd_W_doBelow_47 ?_
    refine z_top (nI_add _ _) ?_
    refine z_callVi (As := [.int (nI (cT_rows (T, S, μ) ((t * 3 + z) * 4 + i))), .int (nI a), .int (nI k), .int (nI (dp + 1))]) (rest := []) (q0 := 0) (ci := 3) X hml (hdo μ (cT_rows (T, S, μ) ((t * 3 + z) * 4 + i)) a k (by omega) (by omega) (by omega)) (zk_W_94 X.2.2.2.1 (z_rm (by omega) (by decide))) rfl rfl rfl hP hS rfl hl.1 rfl (Nat.le_of_ble_eq_true rfl) zd_W_doBelow_48 ⟨Nat.zero_le _, Nat.zero_le _⟩ (fun H locs hP hS => ?_)
    refine lv_istore (lv' := [(8, .int ((cDo T S d μ (cT_rows (T, S, μ) ((t * 3 + z) * 4 + i)) a k).1)), (7, .int (nI i)), (6, .int (nI len)), (5, .int (nI z)), (0, .ref (G 0)), (1, .int (nI t)), (2, .int (nI a)), (3, .int (nI k)), (4, .int (nI dp))]) X.1 X.2.1 zd_W_doBelow_51 hl (by decide) rfl (fun ls hl => ?_)
    refine lv_iload X.1 X.2.1 zd_W_doBelow_53 (lv_at hl 0 rfl) ?_
    refine lv_if_ge (tgt := 61) X.1 X.2.1 zd_W_doBelow_55 (by decide) (fun c1 => ?_) (fun c1 => ?_)
    · refine lv_iinc (v := nI (i + 1)) (lv' := [(7, .int (nI (i + 1))), (8, .int ((cDo T S d μ (cT_rows (T, S, μ) ((t * 3 + z) * 4 + i)) a k).1)), (6, .int (nI len)), (5, .int (nI z)), (0, .ref (G 0)), (1, .int (nI t)), (2, .int (nI a)), (3, .int (nI k)), (4, .int (nI dp))]) X.1 X.2.1 zd_W_doBelow_61 hl (k := 1) rfl (nI_1 _) (by decide) rfl (fun ls hl => ?_)
      refine lv_goto (tgt := 22) X.1 X.2.1 zd_W_doBelow_64 (by decide) ?_
      have e9 : dLoop (fun μ i => cDo T S d μ (cT_rows (T, S, μ) ((t * 3 + z) * 4 + i)) a k) (j + 1) i μ = dLoop (fun μ i => cDo T S d μ (cT_rows (T, S, μ) ((t * 3 + z) * 4 + i)) a k) j (i + 1) ((fun μ i => cDo T S d μ (cT_rows (T, S, μ) ((t * 3 + z) * 4 + i)) a k) μ i).2 := by rw [dLoop]; exact if_pos c1
      rw [e9] at hF kont
      exact ih (i + 1) _ (by omega) hF kont H locs ls hP hS (lv_sub hl [0, 2, 3, 4, 5, 6, 7, 8] rfl)
    · refine lv_iload X.1 X.2.1 zd_W_doBelow_58 (lv_at hl 0 rfl) ?_
      have e9 : dLoop (fun μ i => cDo T S d μ (cT_rows (T, S, μ) ((t * 3 + z) * 4 + i)) a k) (j + 1) i μ = (fun μ i => cDo T S d μ (cT_rows (T, S, μ) ((t * 3 + z) * 4 + i)) a k) μ i := by rw [dLoop]; exact if_neg c1
      rw [e9] at hF
      rw [hF c1]
      exact z_iret X.1 X.2.1 hr hlocks rfl rfl hP hS zd_W_doBelow_60

set_option maxHeartbeats 4000000 in
set_option maxRecDepth 100000 in
/-- doBelow's outer loop -/
theorem q_W_doBelow {p : Program} {e : Env} {s : State} {m : MethodId} {args : Array Value} {below : List Frame} {meth : Method} {c : Code} (l : Launch) (K : zK) (G : Nat → Nat) (A : Nat → Prop) (hD : ∀ σ, va_D A (cW K G σ)) (X : zFx K zR_W zb_W_doBelow p s m args c) (hr : meth.sig.returnType = some .int) (hml : c.maxLocals = 9) (hlocks : meth.locks = false) (T : cTS) (S : cAS) (d dp : Nat) (hdo : cDoing l K G A T S d (dp + 1)) (t a k : Nat) (ht : t < 20) (ha : a < 8) (hk : k < 16) (hdp : dp < 100) (hB : ∀ μ, cB (T, S, μ)) (μ0 : cMu) : ∀ (j z : Nat) (μ : cMu), z + j = 3 → ∀ (H : Heap) (locs : List Loc) (ls : Array Slot), va_P K.1 zcl (cW K G (T, S, μ)) H → va_S A s.heap H locs → lv_has ls 9 [(5, .int (nI z)), (0, .ref (G 0)), (1, .int (nI t)), (2, .int (nI a)), (3, .int (nI k)), (4, .int (nI dp))] → W p l e (zrm (2 * d + 7)) s m args below meth c H locs 0 0 (MQ below (zPost K A (cW K G (T, S, (dBelow (fun μ z i => cDo T S d μ (cT_rows (T, S, μ) ((t * 3 + z) * 4 + i)) a k) (cLen (T, S, μ0) t a) j z μ).2)) (some (.int (dBelow (fun μ z i => cDo T S d μ (cT_rows (T, S, μ) ((t * 3 + z) * 4 + i)) a k) (cLen (T, S, μ0) t a) j z μ).1))) args s 0 0 A) (F0 m 3 ls []) := by
  intro j
  induction j with
  | zero =>
    intro z μ hi H locs ls hP hS hl
    have hB2 := cLen_le (hB μ) t a z
    refine lv_iload X.1 X.2.1 zd_W_doBelow_3 (lv_at hl 0 rfl) ?_
    refine lv_iconst (v := nI 3) X.1 X.2.1 zd_W_doBelow_5 (by decide) ?_
    refine lv_icmp_ge (tgt := 73) X.1 X.2.1 zd_W_doBelow_6 (by decide) (fun _ => ?_) (fun h9 => absurd (by rw [nI_leI (by omega) (by omega)]; omega) h9)
    refine lv_iconst (v := nI 1) X.1 X.2.1 zd_W_doBelow_73 (by decide) ?_
    exact z_iret X.1 X.2.1 hr hlocks rfl rfl hP hS zd_W_doBelow_74
  | succ j ih =>
    intro z μ hi H locs ls hP hS hl
    have hB2 := cLen_le (hB μ) t a z
    refine lv_iload X.1 X.2.1 zd_W_doBelow_3 (lv_at hl 0 rfl) ?_
    refine lv_iconst (v := nI 3) X.1 X.2.1 zd_W_doBelow_5 (by decide) ?_
    refine lv_icmp_ge (tgt := 73) X.1 X.2.1 zd_W_doBelow_6 (by decide) (fun h9 => absurd h9 (by rw [nI_leI (by omega) (by omega)]; omega)) (fun _ => ?_)
    refine lv_aload_n X.1 X.2.1 zd_W_doBelow_9 rfl (lv_at hl 1 rfl) ?_
    refine lv_iload_n X.1 X.2.1 zd_W_doBelow_10 rfl (lv_at hl 2 rfl) ?_
    refine lv_iload_n X.1 X.2.1 zd_W_doBelow_11 rfl (lv_at hl 3 rfl) ?_
    refine lv_iload X.1 X.2.1 zd_W_doBelow_12 (lv_at hl 0 rfl) ?_
    refine z_callVi (As := [.int (nI t), .int (nI a), .int (nI z)]) (rest := []) (q0 := 0) (ci := 3) X hml (k_W_lengthAlong l K G A hD (T, S, μ) t a z (by omega) (by omega) (by omega)) (zk_W_155 X.2.2.2.1 (z_rm (by omega) (by decide))) rfl rfl rfl hP hS rfl hl.1 rfl (Nat.le_of_ble_eq_true rfl) zd_W_doBelow_14 ⟨Nat.zero_le _, Nat.zero_le _⟩ (fun H locs hP hS => ?_)
    refine lv_istore (lv' := [(6, .int (nI (cLen (T, S, μ) t a z))), (5, .int (nI z)), (0, .ref (G 0)), (1, .int (nI t)), (2, .int (nI a)), (3, .int (nI k)), (4, .int (nI dp))]) X.1 X.2.1 zd_W_doBelow_17 hl (by decide) rfl (fun ls hl => ?_)
    refine lv_iconst (v := nI 0) X.1 X.2.1 zd_W_doBelow_19 (by decide) ?_
    refine lv_istore (lv' := [(7, .int (nI 0)), (6, .int (nI (cLen (T, S, μ) t a z))), (5, .int (nI z)), (0, .ref (G 0)), (1, .int (nI t)), (2, .int (nI a)), (3, .int (nI k)), (4, .int (nI dp))]) X.1 X.2.1 zd_W_doBelow_20 hl (by decide) rfl (fun ls hl => ?_)
    refine q_W_doBelow_i l K G A hD X hr hml hlocks T S d dp hdo t a k ht ha hk hdp hB z (cLen (T, S, μ) t a z) (by omega) hB2 _ (cLen (T, S, μ) t a z) 0 μ (Nat.zero_add _) (fun h0 => ?_) (fun h0 H locs ls hP hS hl => ?_) H locs ls hP hS (lv_sub hl [0, 1, 2, 3, 4, 5, 6, 7] rfl)
    · rw [dBelow]; exact if_neg h0
    refine lv_iinc (v := nI (z + 1)) (lv' := [(5, .int (nI (z + 1))), (0, .ref (G 0)), (1, .int (nI t)), (2, .int (nI a)), (3, .int (nI k)), (4, .int (nI dp))]) X.1 X.2.1 zd_W_doBelow_67 hl (k := 0) rfl (nI_1 _) (by decide) rfl (fun ls hl => ?_)
    refine lv_goto (tgt := 3) X.1 X.2.1 zd_W_doBelow_70 (by decide) ?_
    rw [show dBelow (fun μ z i => cDo T S d μ (cT_rows (T, S, μ) ((t * 3 + z) * 4 + i)) a k) (cLen (T, S, μ0) t a) (j + 1) z μ = dBelow (fun μ z i => cDo T S d μ (cT_rows (T, S, μ) ((t * 3 + z) * 4 + i)) a k) (cLen (T, S, μ0) t a) j (z + 1) (dLoop (fun μ i => cDo T S d μ (cT_rows (T, S, μ) ((t * 3 + z) * 4 + i)) a k) (cLen (T, S, μ) t a z) 0 μ).2 from by rw [dBelow]; exact if_pos h0]
    exact ih (z + 1) _ (by omega) H locs ls hP hS (lv_sub hl [0, 1, 2, 3, 4, 5] rfl)

set_option maxHeartbeats 4000000 in
set_option maxRecDepth 100000 in
/-- doBelow -/
theorem k_W_doBelow (l : Launch) (K : zK) (G : Nat → Nat) (A : Nat → Prop) (hD : ∀ σ, va_D A (cW K G σ)) (T : cTS) (S : cAS) (d dp : Nat) (hdo : cDoing l K G A T S d (dp + 1)) (μ : cMu) (t a k : Nat) (ht : t < 20) (ha : a < 8) (hk : k < 16) (hdp : dp < 100) (hB : ∀ μ, cB (T, S, μ)) : zMet l K A zy_W_doBelow zws_W_doBelow (2 * d + 7) [.ref (G 0), .int (nI t), .int (nI a), .int (nI k), .int (nI dp)] (cW K G (T, S, μ)) (cW K G (T, S, (dBelow (fun μ z i => cDo T S d μ (cT_rows (T, S, μ) ((t * 3 + z) * 4 + i)) a k) (cLen (T, S, μ) t a) 3 0 μ).2)) (some (.int (dBelow (fun μ z i => cDo T S d μ (cT_rows (T, S, μ) ((t * 3 + z) * 4 + i)) a k) (cLen (T, S, μ) t a) 3 0 μ).1)) := by
  refine z_entry (by decide) (Nat.le_of_ble_eq_true rfl) ?_
  intro p e s m below meth c ls X hr hml hlocks hP hl
  have hS : va_S A s.heap s.heap [] := va_S.rf
  have hl : lv_has ls 9 [(0, .ref (G 0)), (1, .int (nI t)), (2, .int (nI a)), (3, .int (nI k)), (4, .int (nI dp))] := hl
  refine lv_iconst (v := nI 0) X.1 X.2.1 zd_W_doBelow_0 (by decide) ?_
  refine lv_istore (lv' := [(5, .int (nI 0)), (0, .ref (G 0)), (1, .int (nI t)), (2, .int (nI a)), (3, .int (nI k)), (4, .int (nI dp))]) X.1 X.2.1 zd_W_doBelow_1 hl (by decide) rfl (fun ls hl => ?_)
  exact q_W_doBelow l K G A hD X hr hml hlocks T S d dp hdo t a k ht ha hk hdp hB μ 3 0 μ rfl s.heap [] ls hP hS (lv_sub hl [0, 1, 2, 3, 4, 5] rfl)

set_option maxHeartbeats 4000000 in
set_option maxRecDepth 100000 in
/-- doing: the group, by induction on the levels that are left -/
theorem k_W_doing (l : Launch) (K : zK) (G : Nat → Nat) (A : Nat → Prop) (hD : ∀ σ, va_D A (cW K G σ)) (T : cTS) (S : cAS) (hB : ∀ μ, cB (T, S, μ)) : ∀ (d dp : Nat), dp + d = 29 → cDoing l K G A T S d dp := by
  intro d
  induction d with
  | zero =>
    intro dp hdp μ t a k ht ha hk
    refine z_entry (by decide) (Nat.le_of_ble_eq_true rfl) ?_
    intro p e s m below meth c ls X hr hml hlocks hP hl
    have hS : va_S A s.heap s.heap [] := va_S.rf
    have hl : lv_has ls 8 [(0, .ref (G 0)), (1, .int (nI t)), (2, .int (nI a)), (3, .int (nI k)), (4, .int (nI dp))] := hl
    refine lv_iload X.1 X.2.1 zd_W_doing_0 (lv_at hl 4 rfl) ?_
    refine lv_bipush (v := nI 28) X.1 X.2.1 zd_W_doing_2 (by decide) ?_
    refine lv_icmp_le (tgt := 9) X.1 X.2.1 zd_W_doing_4 (by decide) (fun h9 => absurd h9 (by rw [nI_leI (by omega) (by omega)]; omega)) (fun _ => ?_)
    refine lv_iconst (v := -1) X.1 X.2.1 zd_W_doing_7 (by decide) ?_
    exact z_iret X.1 X.2.1 hr hlocks rfl rfl hP hS zd_W_doing_8
  | succ d ih =>
    intro dp hdp μ t a k ht ha hk
    have hdo : cDoing l K G A T S d (dp + 1) := ih (dp + 1) (by omega)
    refine z_entry (by decide) (Nat.le_of_ble_eq_true rfl) ?_
    intro p e s m below meth c ls X hr hml hlocks hP hl
    have hS : va_S A s.heap s.heap [] := va_S.rf
    have hl : lv_has ls 8 [(0, .ref (G 0)), (1, .int (nI t)), (2, .int (nI a)), (3, .int (nI k)), (4, .int (nI dp))] := hl
    refine lv_iload X.1 X.2.1 zd_W_doing_0 (lv_at hl 4 rfl) ?_
    refine lv_bipush (v := nI 28) X.1 X.2.1 zd_W_doing_2 (by decide) ?_
    refine lv_icmp_le (tgt := 9) X.1 X.2.1 zd_W_doing_4 (by decide) (fun _ => ?_) (fun h9 => absurd (by rw [nI_leI (by omega) (by omega)]; omega) h9)
    refine lv_aload_n X.1 X.2.1 zd_W_doing_9 rfl (lv_at hl 0 rfl) ?_
    refine g_cW_memory X hP zd_W_doing_10 ?_
    refine lv_iload_n X.1 X.2.1 zd_W_doing_13 rfl (lv_at hl 1 rfl) ?_
    refine lv_iload_n X.1 X.2.1 zd_W_doing_14 rfl (lv_at hl 2 rfl) ?_
    refine lv_iload_n X.1 X.2.1 zd_W_doing_15 rfl (lv_at hl 3 rfl) ?_
    refine z_callVi (As := [.int (nI t), .int (nI a), .int (nI k)]) (rest := []) (q0 := 3) (ci := 2) X hml (k_M_known l K G A hD (T, S, μ) t a k (by omega) (by omega) (by omega)) (zk_W_98 X.2.2.2.1 (z_rm (by omega) (by decide))) rfl rfl rfl hP hS rfl hl.1 rfl (Nat.le_of_ble_eq_true rfl) zd_W_doing_16 ⟨Nat.zero_le _, Nat.zero_le _⟩ (fun H locs hP hS => ?_)
    refine lv_istore (lv' := [(5, .int (cKnown (T, S, μ) t a k)), (0, .ref (G 0)), (1, .int (nI t)), (2, .int (nI a)), (3, .int (nI k)), (4, .int (nI dp))]) X.1 X.2.1 zd_W_doing_19 hl (by decide) rfl (fun ls hl => ?_)
    refine lv_iload X.1 X.2.1 zd_W_doing_21 (lv_at hl 0 rfl) ?_
    refine lv_iconst (v := -1) X.1 X.2.1 zd_W_doing_23 (by decide) ?_
    refine lv_icmp_eq (tgt := 30) X.1 X.2.1 zd_W_doing_24 (by decide) (fun c1 => ?_) (fun c1 => ?_)
    · refine lv_aload_n X.1 X.2.1 zd_W_doing_30 rfl (lv_at hl 1 rfl) ?_
      refine lv_iload_n X.1 X.2.1 zd_W_doing_31 rfl (lv_at hl 2 rfl) ?_
      refine lv_iload_n X.1 X.2.1 zd_W_doing_32 rfl (lv_at hl 3 rfl) ?_
      refine lv_iload_n X.1 X.2.1 zd_W_doing_33 rfl (lv_at hl 4 rfl) ?_
      refine lv_iload X.1 X.2.1 zd_W_doing_34 (lv_at hl 5 rfl) ?_
      refine z_callVi (As := [.int (nI t), .int (nI a), .int (nI k), .int (nI dp)]) (rest := []) (q0 := 0) (ci := 3) X hml (k_W_doNeeds l K G A hD T S d dp hdo μ t a k ht ha hk (by omega) hB) (zk_W_129 X.2.2.2.1 (z_rm (by omega) (by decide))) rfl rfl rfl hP hS rfl hl.1 rfl (Nat.le_of_ble_eq_true rfl) zd_W_doing_36 ⟨Nat.zero_le _, Nat.zero_le _⟩ (fun H locs hP hS => ?_)
      refine lv_istore (lv' := [(6, .int ((dLoop (fun μ i => cDo T S d μ t (cA_needs (T, S, μ) (a * 3 + i)) k) (cA_needCounts (T, S, μ) a) 0 μ).1)), (5, .int (cKnown (T, S, μ) t a k)), (0, .ref (G 0)), (1, .int (nI t)), (2, .int (nI a)), (3, .int (nI k)), (4, .int (nI dp))]) X.1 X.2.1 zd_W_doing_39 hl (by decide) rfl (fun ls hl => ?_)
      refine lv_iload X.1 X.2.1 zd_W_doing_41 (lv_at hl 0 rfl) ?_
      refine lv_if_ge (tgt := 49) X.1 X.2.1 zd_W_doing_43 (by decide) (fun c2 => ?_) (fun c2 => ?_)
      · refine lv_aload_n X.1 X.2.1 zd_W_doing_49 rfl (lv_at hl 2 rfl) ?_
        refine lv_iload_n X.1 X.2.1 zd_W_doing_50 rfl (lv_at hl 3 rfl) ?_
        refine lv_iload_n X.1 X.2.1 zd_W_doing_51 rfl (lv_at hl 4 rfl) ?_
        refine lv_iload_n X.1 X.2.1 zd_W_doing_52 rfl (lv_at hl 5 rfl) ?_
        refine z_callVi (As := [.int (nI t), .int (nI a), .int (nI k)]) (rest := []) (q0 := 0) (ci := 3) X hml (k_W_lacksProvider l K G A hD (T, S, (dLoop (fun μ i => cDo T S d μ t (cA_needs (T, S, μ) (a * 3 + i)) k) (cA_needCounts (T, S, μ) a) 0 μ).2) t a k ht ha hk (hB _)) (zk_W_132 X.2.2.2.1 (z_rm (by omega) (by decide))) rfl rfl rfl hP hS rfl hl.1 rfl (Nat.le_of_ble_eq_true rfl) zd_W_doing_53 ⟨Nat.zero_le _, Nat.zero_le _⟩ (fun H locs hP hS => ?_)
        refine lv_if_eq (tgt := 71) X.1 X.2.1 zd_W_doing_56 (by decide) (fun c3 => ?_) (fun c3 => ?_)
        · rw [z_eq0 (cLacks_lt _ _ _ _)] at c3
          refine lv_aload_n X.1 X.2.1 zd_W_doing_71 rfl (lv_at hl 2 rfl) ?_
          refine lv_iload_n X.1 X.2.1 zd_W_doing_72 rfl (lv_at hl 3 rfl) ?_
          refine lv_iload_n X.1 X.2.1 zd_W_doing_73 rfl (lv_at hl 4 rfl) ?_
          refine lv_iload_n X.1 X.2.1 zd_W_doing_74 rfl (lv_at hl 5 rfl) ?_
          refine lv_iload X.1 X.2.1 zd_W_doing_75 (lv_at hl 6 rfl) ?_
          refine z_callVi (As := [.int (nI t), .int (nI a), .int (nI k), .int (nI dp)]) (rest := []) (q0 := 0) (ci := 3) X hml (k_W_doBelow l K G A hD T S d dp hdo ((dLoop (fun μ i => cDo T S d μ t (cA_needs (T, S, μ) (a * 3 + i)) k) (cA_needCounts (T, S, μ) a) 0 μ).2) t a k ht ha hk (by omega) hB) (zk_W_139 X.2.2.2.1 (z_rm (by omega) (by decide))) rfl rfl rfl hP hS rfl hl.1 rfl (Nat.le_of_ble_eq_true rfl) zd_W_doing_77 ⟨Nat.zero_le _, Nat.zero_le _⟩ (fun H locs hP hS => ?_)
          refine lv_istore (lv' := [(7, .int ((dBelow (fun μ z i => cDo T S d μ (cT_rows (T, S, μ) ((t * 3 + z) * 4 + i)) a k) (cLen (T, S, μ) t a) 3 0 (dLoop (fun μ i => cDo T S d μ t (cA_needs (T, S, μ) (a * 3 + i)) k) (cA_needCounts (T, S, μ) a) 0 μ).2).1)), (6, .int ((dLoop (fun μ i => cDo T S d μ t (cA_needs (T, S, μ) (a * 3 + i)) k) (cA_needCounts (T, S, μ) a) 0 μ).1)), (5, .int (cKnown (T, S, μ) t a k)), (0, .ref (G 0)), (1, .int (nI t)), (2, .int (nI a)), (3, .int (nI k)), (4, .int (nI dp))]) X.1 X.2.1 zd_W_doing_80 hl (by decide) rfl (fun ls hl => ?_)
          refine lv_iload X.1 X.2.1 zd_W_doing_82 (lv_at hl 0 rfl) ?_
          refine lv_if_ge (tgt := 90) X.1 X.2.1 zd_W_doing_84 (by decide) (fun c4 => ?_) (fun c4 => ?_)
          · refine lv_aload_n X.1 X.2.1 zd_W_doing_90 rfl (lv_at hl 3 rfl) ?_
            refine lv_iload_n X.1 X.2.1 zd_W_doing_91 rfl (lv_at hl 4 rfl) ?_
            refine lv_iload_n X.1 X.2.1 zd_W_doing_92 rfl (lv_at hl 5 rfl) ?_
            refine lv_iload_n X.1 X.2.1 zd_W_doing_93 rfl (lv_at hl 6 rfl) ?_
            refine z_callVi (As := [.int (nI t), .int (nI a), .int (nI k)]) (rest := []) (q0 := 0) (ci := 3) X hml (k_W_makeOutput l K G A hD (T, S, (dBelow (fun μ z i => cDo T S d μ (cT_rows (T, S, μ) ((t * 3 + z) * 4 + i)) a k) (cLen (T, S, μ) t a) 3 0 (dLoop (fun μ i => cDo T S d μ t (cA_needs (T, S, μ) (a * 3 + i)) k) (cA_needCounts (T, S, μ) a) 0 μ).2).2) t a k ht ha hk (hB _)) (zk_W_142 X.2.2.2.1 (z_rm (by omega) (by decide))) rfl rfl rfl hP hS rfl hl.1 rfl (Nat.le_of_ble_eq_true rfl) zd_W_doing_94 ⟨Nat.zero_le _, Nat.zero_le _⟩ (fun H locs hP hS => ?_)
            have hBm : cB ((cMake (T, S, (dBelow (fun μ z i => cDo T S d μ (cT_rows (T, S, μ) ((t * 3 + z) * 4 + i)) a k) (cLen (T, S, μ) t a) 3 0 (dLoop (fun μ i => cDo T S d μ t (cA_needs (T, S, μ) (a * 3 + i)) k) (cA_needCounts (T, S, μ) a) 0 μ).2).2) t a k).2) := by rw [cMake_eta]; exact hB _
            refine lv_if_ne (tgt := 103) X.1 X.2.1 zd_W_doing_97 (by decide) (fun c5 => ?_) (fun c5 => ?_)
            · rw [z_eq0 (cMake_lt _ _ _ _)] at c5
              refine lv_aload_n X.1 X.2.1 zd_W_doing_103 rfl (lv_at hl 3 rfl) ?_
              refine g_cW_memory X hP zd_W_doing_104 ?_
              refine lv_iload_n X.1 X.2.1 zd_W_doing_107 rfl (lv_at hl 4 rfl) ?_
              refine lv_iload_n X.1 X.2.1 zd_W_doing_108 rfl (lv_at hl 5 rfl) ?_
              refine lv_iload_n X.1 X.2.1 zd_W_doing_109 rfl (lv_at hl 6 rfl) ?_
              refine lv_aload_n X.1 X.2.1 zd_W_doing_110 rfl (lv_at hl 3 rfl) ?_
              refine lv_iload_n X.1 X.2.1 zd_W_doing_111 rfl (lv_at hl 4 rfl) ?_
              refine lv_iload_n X.1 X.2.1 zd_W_doing_112 rfl (lv_at hl 5 rfl) ?_
              refine lv_iload_n X.1 X.2.1 zd_W_doing_113 rfl (lv_at hl 6 rfl) ?_
              refine z_callVl (As := [.int (nI t), .int (nI a), .int (nI k)]) (rest := [.int (nI k), .int (nI a), .int (nI t), .ref (G 3)]) (q0 := 0) (ci := 3) X hml (k_W_joined l K G A hD ((cMake (T, S, (dBelow (fun μ z i => cDo T S d μ (cT_rows (T, S, μ) ((t * 3 + z) * 4 + i)) a k) (cLen (T, S, μ) t a) 3 0 (dLoop (fun μ i => cDo T S d μ t (cA_needs (T, S, μ) (a * 3 + i)) k) (cA_needCounts (T, S, μ) a) 0 μ).2).2) t a k).2) t a k ht ha hk hBm) (zk_W_145 X.2.2.2.1 (z_rm (by omega) (by decide))) rfl rfl rfl hP hS rfl hl.1 rfl (Nat.le_of_ble_eq_true rfl) zd_W_doing_114 ⟨Nat.zero_le _, Nat.zero_le _⟩ (fun H locs hP hS => ?_)
              refine z_callVv (As := [.int (nI t), .int (nI a), .int (nI k), .long (cJoined ((cMake (T, S, (dBelow (fun μ z i => cDo T S d μ (cT_rows (T, S, μ) ((t * 3 + z) * 4 + i)) a k) (cLen (T, S, μ) t a) 3 0 (dLoop (fun μ i => cDo T S d μ t (cA_needs (T, S, μ) (a * 3 + i)) k) (cA_needCounts (T, S, μ) a) 0 μ).2).2) t a k).2) t a k)]) (rest := []) (q0 := 3) (ci := 2) X hml (k_M_keepDone l K G A hD ((cMake (T, S, (dBelow (fun μ z i => cDo T S d μ (cT_rows (T, S, μ) ((t * 3 + z) * 4 + i)) a k) (cLen (T, S, μ) t a) 3 0 (dLoop (fun μ i => cDo T S d μ t (cA_needs (T, S, μ) (a * 3 + i)) k) (cA_needCounts (T, S, μ) a) 0 μ).2).2) t a k).2) t a k (cJoined ((cMake (T, S, (dBelow (fun μ z i => cDo T S d μ (cT_rows (T, S, μ) ((t * 3 + z) * 4 + i)) a k) (cLen (T, S, μ) t a) 3 0 (dLoop (fun μ i => cDo T S d μ t (cA_needs (T, S, μ) (a * 3 + i)) k) (cA_needCounts (T, S, μ) a) 0 μ).2).2) t a k).2) t a k) ht ha hk) (zk_W_148 X.2.2.2.1 (z_rm (by omega) (by decide))) rfl rfl rfl hP hS rfl hl.1 rfl (Nat.le_of_ble_eq_true rfl) zd_W_doing_117 ⟨Nat.zero_le _, Nat.zero_le _⟩ (fun H locs hP hS => ?_)
              refine lv_iconst (v := nI 1) X.1 X.2.1 zd_W_doing_120 (by decide) ?_
              rw [show cDo T S (d + 1) μ t a k = _ from by rw [cDo, if_pos c1, if_pos c2, if_pos c3, if_pos c4, cFin, if_neg c5]]
              exact z_iret X.1 X.2.1 hr hlocks rfl (by rw [cMake_eta]; try rfl) hP hS zd_W_doing_121
            · rw [z_eq0 (cMake_lt _ _ _ _)] at c5
              refine lv_bipush (v := -2) X.1 X.2.1 zd_W_doing_100 (by decide) ?_
              rw [show cDo T S (d + 1) μ t a k = _ from by rw [cDo, if_pos c1, if_pos c2, if_pos c3, if_pos c4, cFin, if_pos c5]]
              exact z_iret X.1 X.2.1 hr hlocks rfl (by rw [cMake_eta]; try rfl) hP hS zd_W_doing_102
          · refine lv_iload X.1 X.2.1 zd_W_doing_87 (lv_at hl 0 rfl) ?_
            rw [show cDo T S (d + 1) μ t a k = _ from by rw [cDo, if_pos c1, if_pos c2, if_pos c3, if_neg c4]]
            exact z_iret X.1 X.2.1 hr hlocks rfl rfl hP hS zd_W_doing_89
        · rw [z_eq0 (cLacks_lt _ _ _ _)] at c3
          refine lv_aload_n X.1 X.2.1 zd_W_doing_59 rfl (lv_at hl 2 rfl) ?_
          refine g_cW_memory X hP zd_W_doing_60 ?_
          refine lv_iload_n X.1 X.2.1 zd_W_doing_63 rfl (lv_at hl 3 rfl) ?_
          refine lv_iload_n X.1 X.2.1 zd_W_doing_64 rfl (lv_at hl 4 rfl) ?_
          refine lv_iload_n X.1 X.2.1 zd_W_doing_65 rfl (lv_at hl 5 rfl) ?_
          refine z_callVv (As := [.int (nI t), .int (nI a), .int (nI k)]) (rest := []) (q0 := 3) (ci := 2) X hml (k_M_keepPassed l K G A hD (T, S, (dLoop (fun μ i => cDo T S d μ t (cA_needs (T, S, μ) (a * 3 + i)) k) (cA_needCounts (T, S, μ) a) 0 μ).2) t a k ht ha hk) (zk_W_135 X.2.2.2.1 (z_rm (by omega) (by decide))) rfl rfl rfl hP hS rfl hl.1 rfl (Nat.le_of_ble_eq_true rfl) zd_W_doing_66 ⟨Nat.zero_le _, Nat.zero_le _⟩ (fun H locs hP hS => ?_)
          refine lv_iconst (v := nI 0) X.1 X.2.1 zd_W_doing_69 (by decide) ?_
          rw [show cDo T S (d + 1) μ t a k = _ from by rw [cDo, if_pos c1, if_pos c2, if_neg c3]]
          exact z_iret X.1 X.2.1 hr hlocks rfl rfl hP hS zd_W_doing_70
      · refine lv_iload X.1 X.2.1 zd_W_doing_46 (lv_at hl 0 rfl) ?_
        rw [show cDo T S (d + 1) μ t a k = _ from by rw [cDo, if_pos c1, if_neg c2]]
        exact z_iret X.1 X.2.1 hr hlocks rfl rfl hP hS zd_W_doing_48
    · refine lv_iload X.1 X.2.1 zd_W_doing_27 (lv_at hl 0 rfl) ?_
      rw [show cDo T S (d + 1) μ t a k = _ from by rw [cDo, if_neg c1]]
      exact z_iret X.1 X.2.1 hr hlocks rfl rfl hP hS zd_W_doing_29
end
section
/-! contracts of the class's public methods (by program: wip/gen/wpub.py) -/
theorem z_rng {y : Int32} {N : Nat} (h0 : ¬ y < 0) (h : ¬ nI N ≤ y) (hN : N < 2 ^ 31) : ∃ j : Nat, j < N ∧ y = nI j := by
  rcases pk_ix y hN with q | q | q
  · exact absurd q h0
  · exact absurd q h
  · exact q
theorem cHas_ex {o : Nat} {x : Int32} (ho : o < 2 ^ 31) (h : ¬ cHas o x = 0) : ∃ n, n < o ∧ x = nI n := by
  unfold cHas at h
  split at h
  · exact absurd rfl h
  · split at h
    · exact absurd rfl h
    · rename_i h1 h2
      exact z_rng h1 h2 ho
theorem cHas_y {o n : Nat} (h : n < o) (ho : o < 2 ^ 31) : cHas o (nI n) = 1 := by
  unfold cHas
  rw [if_neg (nI_pos (by omega)), if_neg (nI_ge h ho)]
theorem cHas_n {o : Nat} {x : Int32} (ho : o < 2 ^ 31) (h : ∀ n, n < o → ¬ x = nI n) : cHas o x = 0 := by
  apply Classical.byContradiction
  intro q
  obtain ⟨n, hn, rfl⟩ := cHas_ex ho q
  exact h n hn rfl
theorem cAsked_y {σ : cS} {t a k : Nat} (ht : t < cT_opened σ) (hT : cT_opened σ ≤ 20) (ha : a < cA_opened σ) (hA : cA_opened σ ≤ 8) (hk : k < 16) : cAsked σ (nI t) (nI a) (nI k) = 1 := by
  unfold cAsked
  rw [cHas_y ht (by omega), cHas_y ha (by omega), if_neg (by decide), if_neg (by decide), if_neg (nI_pos (by omega)), if_neg (nI_ge hk (by decide))]
theorem cAsked_n {σ : cS} {x y z : Int32} (hT : cT_opened σ ≤ 20) (hA : cA_opened σ ≤ 8) (h : ¬ ∃ t a k, t < cT_opened σ ∧ x = nI t ∧ a < cA_opened σ ∧ y = nI a ∧ k < 16 ∧ z = nI k) : cAsked σ x y z = 0 := by
  unfold cAsked
  split
  · rfl
  · split
    · rfl
    · split
      · rfl
      · split
        · rfl
        · rename_i h1 h2 h3 h4
          obtain ⟨t, ht, e1⟩ := cHas_ex (by omega) h1
          obtain ⟨a, ha, e2⟩ := cHas_ex (by omega) h2
          obtain ⟨k, hk, e3⟩ := z_rng h3 h4 (by decide)
          exact absurd ⟨t, a, k, ht, e1, ha, e2, hk, e3⟩ h

set_option maxHeartbeats 4000000 in
set_option maxRecDepth 100000 in
/-- target: a new one -/
theorem k_W_target_1 (l : Launch) (K : zK) (G : Nat → Nat) (A : Nat → Prop) (hD : ∀ σ, va_D A (cW K G σ)) (σ : cS) (v : Int64) (g : Int32) (ho : cT_opened σ < 20) (hB : cB σ) : zMet l K A zy_W_target zws_W_target 1 [.ref (G 0), .long v, .int g] (cW K G σ) (cW K G (cOpenT σ v (g &&& nI 255))) (some (.int (nI (cT_opened σ)))) := by
  have hBo := hB.1
  have hBa := hB.2.1
  refine z_entry (by decide) (Nat.le_of_ble_eq_true rfl) ?_
  intro p e s m below meth c ls X hr hml hlocks hP hl
  have hS : va_S A s.heap s.heap [] := va_S.rf
  have hl : lv_has ls 4 [(0, .ref (G 0)), (1, .long v), (3, .int g)] := hl
  refine lv_aload_n X.1 X.2.1 zd_W_target_0 rfl (lv_at hl 0 rfl) ?_
  refine g_cW_targets X hP zd_W_target_1 ?_
  refine lv_lload_n X.1 X.2.1 zd_W_target_4 rfl (lv_at hl 1 rfl) ?_
  refine lv_iload_n X.1 X.2.1 zd_W_target_5 rfl (lv_at hl 2 rfl) ?_
  refine lv_sipush (v := nI 255) X.1 X.2.1 zd_W_target_6 (by decide) ?_
  refine lv_iand X.1 X.2.1 zd_W_target_9 ?_
  refine z_callVi (As := [.long v, .int (g &&& (nI 255))]) (rest := []) (q0 := 1) (ci := 0) X hml (k_T_open_1 l K G A hD σ v (g &&& (nI 255)) ho) (zk_W_40 X.2.2.2.1 (z_rm (by omega) (by decide))) rfl rfl rfl hP hS rfl hl.1 rfl (Nat.le_of_ble_eq_true rfl) zd_W_target_10 ⟨Nat.zero_le _, Nat.zero_le _⟩ (fun H locs hP hS => ?_)
  exact z_iret X.1 X.2.1 hr hlocks rfl rfl hP hS zd_W_target_13

set_option maxHeartbeats 4000000 in
set_option maxRecDepth 100000 in
/-- target: full -/
theorem k_W_target_0 (l : Launch) (K : zK) (G : Nat → Nat) (A : Nat → Prop) (hD : ∀ σ, va_D A (cW K G σ)) (σ : cS) (v : Int64) (g : Int32) (ho : cT_opened σ = 20) (hB : cB σ) : zMet l K A zy_W_target zws_W_target 1 [.ref (G 0), .long v, .int g] (cW K G σ) (cW K G σ) (some (.int (-1))) := by
  have hBo := hB.1
  have hBa := hB.2.1
  refine z_entry (by decide) (Nat.le_of_ble_eq_true rfl) ?_
  intro p e s m below meth c ls X hr hml hlocks hP hl
  have hS : va_S A s.heap s.heap [] := va_S.rf
  have hl : lv_has ls 4 [(0, .ref (G 0)), (1, .long v), (3, .int g)] := hl
  refine lv_aload_n X.1 X.2.1 zd_W_target_0 rfl (lv_at hl 0 rfl) ?_
  refine g_cW_targets X hP zd_W_target_1 ?_
  refine lv_lload_n X.1 X.2.1 zd_W_target_4 rfl (lv_at hl 1 rfl) ?_
  refine lv_iload_n X.1 X.2.1 zd_W_target_5 rfl (lv_at hl 2 rfl) ?_
  refine lv_sipush (v := nI 255) X.1 X.2.1 zd_W_target_6 (by decide) ?_
  refine lv_iand X.1 X.2.1 zd_W_target_9 ?_
  refine z_callVi (As := [.long v, .int (g &&& (nI 255))]) (rest := []) (q0 := 1) (ci := 0) X hml (k_T_open_0 l K G A hD σ v (g &&& (nI 255)) ho) (zk_W_40 X.2.2.2.1 (z_rm (by omega) (by decide))) rfl rfl rfl hP hS rfl hl.1 rfl (Nat.le_of_ble_eq_true rfl) zd_W_target_10 ⟨Nat.zero_le _, Nat.zero_le _⟩ (fun H locs hP hS => ?_)
  exact z_iret X.1 X.2.1 hr hlocks rfl rfl hP hS zd_W_target_13

set_option maxHeartbeats 4000000 in
set_option maxRecDepth 100000 in
/-- alias: none such -/
theorem k_W_alias_n (l : Launch) (K : zK) (G : Nat → Nat) (A : Nat → Prop) (hD : ∀ σ, va_D A (cW K G σ)) (σ : cS) (x : Int32) (hx : cHas (cT_opened σ) x = 0) (hB : cB σ) : zMet l K A zy_W_alias zws_W_alias 1 [.ref (G 0), .int x] (cW K G σ) (cW K G σ) (some (.int (-1))) := by
  have hBo := hB.1
  have hBa := hB.2.1
  refine z_entry (by decide) (Nat.le_of_ble_eq_true rfl) ?_
  intro p e s m below meth c ls X hr hml hlocks hP hl
  have hS : va_S A s.heap s.heap [] := va_S.rf
  have hl : lv_has ls 2 [(0, .ref (G 0)), (1, .int x)] := hl
  refine lv_aload_n X.1 X.2.1 zd_W_alias_0 rfl (lv_at hl 0 rfl) ?_
  refine g_cW_targets X hP zd_W_alias_1 ?_
  refine lv_iload_n X.1 X.2.1 zd_W_alias_4 rfl (lv_at hl 1 rfl) ?_
  refine z_callVi (As := [.int x]) (rest := []) (q0 := 1) (ci := 0) X hml (k_T_has l K G A hD σ x) (zk_W_44 X.2.2.2.1 (z_rm (by omega) (by decide))) rfl rfl rfl hP hS rfl hl.1 rfl (Nat.le_of_ble_eq_true rfl) zd_W_alias_5 ⟨Nat.zero_le _, Nat.zero_le _⟩ (fun H locs hP hS => ?_)
  refine lv_if_eq (tgt := 22) X.1 X.2.1 zd_W_alias_8 (by decide) (fun _ => ?_) (fun h9 => absurd (by rw [hx]; rfl) h9)
  refine lv_iconst (v := -1) X.1 X.2.1 zd_W_alias_22 (by decide) ?_
  exact z_iret X.1 X.2.1 hr hlocks rfl rfl hP hS zd_W_alias_23

set_option maxHeartbeats 4000000 in
set_option maxRecDepth 100000 in
/-- alias: a new one -/
theorem k_W_alias_1 (l : Launch) (K : zK) (G : Nat → Nat) (A : Nat → Prop) (hD : ∀ σ, va_D A (cW K G σ)) (σ : cS) (n : Nat) (hn : n < cT_opened σ) (ho : cT_opened σ < 20) (hB : cB σ) : zMet l K A zy_W_alias zws_W_alias 1 [.ref (G 0), .int (nI n)] (cW K G σ) (cW K G (cOpenAlias σ n)) (some (.int (nI (cT_opened σ)))) := by
  have hBo := hB.1
  have hBa := hB.2.1
  refine z_entry (by decide) (Nat.le_of_ble_eq_true rfl) ?_
  intro p e s m below meth c ls X hr hml hlocks hP hl
  have hS : va_S A s.heap s.heap [] := va_S.rf
  have hl : lv_has ls 2 [(0, .ref (G 0)), (1, .int (nI n))] := hl
  refine lv_aload_n X.1 X.2.1 zd_W_alias_0 rfl (lv_at hl 0 rfl) ?_
  refine g_cW_targets X hP zd_W_alias_1 ?_
  refine lv_iload_n X.1 X.2.1 zd_W_alias_4 rfl (lv_at hl 1 rfl) ?_
  refine z_callVi (As := [.int (nI n)]) (rest := []) (q0 := 1) (ci := 0) X hml (k_T_has l K G A hD σ (nI n)) (zk_W_44 X.2.2.2.1 (z_rm (by omega) (by decide))) rfl rfl rfl hP hS rfl hl.1 rfl (Nat.le_of_ble_eq_true rfl) zd_W_alias_5 ⟨Nat.zero_le _, Nat.zero_le _⟩ (fun H locs hP hS => ?_)
  refine lv_if_eq (tgt := 22) X.1 X.2.1 zd_W_alias_8 (by decide) (fun h9 => absurd h9 (by rw [cHas_y hn (by omega)]; decide)) (fun _ => ?_)
  refine lv_aload_n X.1 X.2.1 zd_W_alias_11 rfl (lv_at hl 0 rfl) ?_
  refine g_cW_targets X hP zd_W_alias_12 ?_
  refine lv_iload_n X.1 X.2.1 zd_W_alias_15 rfl (lv_at hl 1 rfl) ?_
  refine z_callVi (As := [.int (nI n)]) (rest := []) (q0 := 1) (ci := 0) X hml (k_T_openAlias_1 l K G A hD σ n (by omega) ho) (zk_W_48 X.2.2.2.1 (z_rm (by omega) (by decide))) rfl rfl rfl hP hS rfl hl.1 rfl (Nat.le_of_ble_eq_true rfl) zd_W_alias_16 ⟨Nat.zero_le _, Nat.zero_le _⟩ (fun H locs hP hS => ?_)
  refine lv_goto (tgt := 23) X.1 X.2.1 zd_W_alias_19 (by decide) ?_
  exact z_iret X.1 X.2.1 hr hlocks rfl rfl hP hS zd_W_alias_23

set_option maxHeartbeats 4000000 in
set_option maxRecDepth 100000 in
/-- alias: full -/
theorem k_W_alias_0 (l : Launch) (K : zK) (G : Nat → Nat) (A : Nat → Prop) (hD : ∀ σ, va_D A (cW K G σ)) (σ : cS) (n : Nat) (hn : n < cT_opened σ) (ho : cT_opened σ = 20) (hB : cB σ) : zMet l K A zy_W_alias zws_W_alias 1 [.ref (G 0), .int (nI n)] (cW K G σ) (cW K G σ) (some (.int (-1))) := by
  have hBo := hB.1
  have hBa := hB.2.1
  refine z_entry (by decide) (Nat.le_of_ble_eq_true rfl) ?_
  intro p e s m below meth c ls X hr hml hlocks hP hl
  have hS : va_S A s.heap s.heap [] := va_S.rf
  have hl : lv_has ls 2 [(0, .ref (G 0)), (1, .int (nI n))] := hl
  refine lv_aload_n X.1 X.2.1 zd_W_alias_0 rfl (lv_at hl 0 rfl) ?_
  refine g_cW_targets X hP zd_W_alias_1 ?_
  refine lv_iload_n X.1 X.2.1 zd_W_alias_4 rfl (lv_at hl 1 rfl) ?_
  refine z_callVi (As := [.int (nI n)]) (rest := []) (q0 := 1) (ci := 0) X hml (k_T_has l K G A hD σ (nI n)) (zk_W_44 X.2.2.2.1 (z_rm (by omega) (by decide))) rfl rfl rfl hP hS rfl hl.1 rfl (Nat.le_of_ble_eq_true rfl) zd_W_alias_5 ⟨Nat.zero_le _, Nat.zero_le _⟩ (fun H locs hP hS => ?_)
  refine lv_if_eq (tgt := 22) X.1 X.2.1 zd_W_alias_8 (by decide) (fun h9 => absurd h9 (by rw [cHas_y hn (by omega)]; decide)) (fun _ => ?_)
  refine lv_aload_n X.1 X.2.1 zd_W_alias_11 rfl (lv_at hl 0 rfl) ?_
  refine g_cW_targets X hP zd_W_alias_12 ?_
  refine lv_iload_n X.1 X.2.1 zd_W_alias_15 rfl (lv_at hl 1 rfl) ?_
  refine z_callVi (As := [.int (nI n)]) (rest := []) (q0 := 1) (ci := 0) X hml (k_T_openAlias_0 l K G A hD σ n ho) (zk_W_48 X.2.2.2.1 (z_rm (by omega) (by decide))) rfl rfl rfl hP hS rfl hl.1 rfl (Nat.le_of_ble_eq_true rfl) zd_W_alias_16 ⟨Nat.zero_le _, Nat.zero_le _⟩ (fun H locs hP hS => ?_)
  refine lv_goto (tgt := 23) X.1 X.2.1 zd_W_alias_19 (by decide) ?_
  exact z_iret X.1 X.2.1 hr hlocks rfl rfl hP hS zd_W_alias_23

set_option maxHeartbeats 4000000 in
set_option maxRecDepth 100000 in
/-- stands: none such -/
theorem k_W_stands_n (l : Launch) (K : zK) (G : Nat → Nat) (A : Nat → Prop) (hD : ∀ σ, va_D A (cW K G σ)) (σ : cS) (x : Int32) (hx : cHas (cT_opened σ) x = 0) (hB : cB σ) : zMet l K A zy_W_stands zws_W_stands 1 [.ref (G 0), .int x] (cW K G σ) (cW K G σ) (some (.int (-1))) := by
  have hBo := hB.1
  have hBa := hB.2.1
  refine z_entry (by decide) (Nat.le_of_ble_eq_true rfl) ?_
  intro p e s m below meth c ls X hr hml hlocks hP hl
  have hS : va_S A s.heap s.heap [] := va_S.rf
  have hl : lv_has ls 2 [(0, .ref (G 0)), (1, .int x)] := hl
  refine lv_aload_n X.1 X.2.1 zd_W_stands_0 rfl (lv_at hl 0 rfl) ?_
  refine g_cW_targets X hP zd_W_stands_1 ?_
  refine lv_iload_n X.1 X.2.1 zd_W_stands_4 rfl (lv_at hl 1 rfl) ?_
  refine z_callVi (As := [.int x]) (rest := []) (q0 := 1) (ci := 0) X hml (k_T_has l K G A hD σ x) (zk_W_44 X.2.2.2.1 (z_rm (by omega) (by decide))) rfl rfl rfl hP hS rfl hl.1 rfl (Nat.le_of_ble_eq_true rfl) zd_W_stands_5 ⟨Nat.zero_le _, Nat.zero_le _⟩ (fun H locs hP hS => ?_)
  refine lv_if_eq (tgt := 22) X.1 X.2.1 zd_W_stands_8 (by decide) (fun _ => ?_) (fun h9 => absurd (by rw [hx]; rfl) h9)
  refine lv_iconst (v := -1) X.1 X.2.1 zd_W_stands_22 (by decide) ?_
  exact z_iret X.1 X.2.1 hr hlocks rfl rfl hP hS zd_W_stands_23

set_option maxHeartbeats 4000000 in
set_option maxRecDepth 100000 in
/-- stands -/
theorem k_W_stands_1 (l : Launch) (K : zK) (G : Nat → Nat) (A : Nat → Prop) (hD : ∀ σ, va_D A (cW K G σ)) (σ : cS) (n : Nat) (hn : n < cT_opened σ) (hB : cB σ) : zMet l K A zy_W_stands zws_W_stands 1 [.ref (G 0), .int (nI n)] (cW K G σ) (cW K G σ) (some (.int (nI (cT_ends σ n)))) := by
  have hBo := hB.1
  have hBa := hB.2.1
  refine z_entry (by decide) (Nat.le_of_ble_eq_true rfl) ?_
  intro p e s m below meth c ls X hr hml hlocks hP hl
  have hS : va_S A s.heap s.heap [] := va_S.rf
  have hl : lv_has ls 2 [(0, .ref (G 0)), (1, .int (nI n))] := hl
  refine lv_aload_n X.1 X.2.1 zd_W_stands_0 rfl (lv_at hl 0 rfl) ?_
  refine g_cW_targets X hP zd_W_stands_1 ?_
  refine lv_iload_n X.1 X.2.1 zd_W_stands_4 rfl (lv_at hl 1 rfl) ?_
  refine z_callVi (As := [.int (nI n)]) (rest := []) (q0 := 1) (ci := 0) X hml (k_T_has l K G A hD σ (nI n)) (zk_W_44 X.2.2.2.1 (z_rm (by omega) (by decide))) rfl rfl rfl hP hS rfl hl.1 rfl (Nat.le_of_ble_eq_true rfl) zd_W_stands_5 ⟨Nat.zero_le _, Nat.zero_le _⟩ (fun H locs hP hS => ?_)
  refine lv_if_eq (tgt := 22) X.1 X.2.1 zd_W_stands_8 (by decide) (fun h9 => absurd h9 (by rw [cHas_y hn (by omega)]; decide)) (fun _ => ?_)
  refine lv_aload_n X.1 X.2.1 zd_W_stands_11 rfl (lv_at hl 0 rfl) ?_
  refine g_cW_targets X hP zd_W_stands_12 ?_
  refine lv_iload_n X.1 X.2.1 zd_W_stands_15 rfl (lv_at hl 1 rfl) ?_
  refine z_callVi (As := [.int (nI n)]) (rest := []) (q0 := 1) (ci := 0) X hml (k_T_end l K G A hD σ n (by omega)) (zk_W_52 X.2.2.2.1 (z_rm (by omega) (by decide))) rfl rfl rfl hP hS rfl hl.1 rfl (Nat.le_of_ble_eq_true rfl) zd_W_stands_16 ⟨Nat.zero_le _, Nat.zero_le _⟩ (fun H locs hP hS => ?_)
  refine lv_goto (tgt := 23) X.1 X.2.1 zd_W_stands_19 (by decide) ?_
  exact z_iret X.1 X.2.1 hr hlocks rfl rfl hP hS zd_W_stands_23

theorem z_if_lt {c : Prop} [Decidable c] : (if c then (0 : Nat) else 1) < 2 ^ 31 := by split <;> decide
theorem z_if_lt' {c : Prop} [Decidable c] : (if c then (1 : Nat) else 0) < 2 ^ 31 := by split <;> decide
set_option maxHeartbeats 4000000 in
set_option maxRecDepth 100000 in
/-- add: refused -/
theorem k_W_add_bad (l : Launch) (K : zK) (G : Nat → Nat) (A : Nat → Prop) (hD : ∀ σ, va_D A (cW K G σ)) (σ : cS) (x y z : Int32) (h : ¬ ∃ n o w, n < cT_opened σ ∧ x = nI n ∧ o < cT_opened σ ∧ z = nI o ∧ cT_ends σ n = n ∧ w < 3 ∧ y = nI w ∧ o < n) (hB : cB σ) : zMet l K A zy_W_add zws_W_add 1 [.ref (G 0), .int x, .int y, .int z] (cW K G σ) (cW K G σ) (some (.int (nI 0))) := by
  have hBo := hB.1
  have hBa := hB.2.1
  refine z_entry (by decide) (Nat.le_of_ble_eq_true rfl) ?_
  intro p e s m below meth c ls X hr hml hlocks hP hl
  have hS : va_S A s.heap s.heap [] := va_S.rf
  have hl : lv_has ls 4 [(0, .ref (G 0)), (1, .int x), (2, .int y), (3, .int z)] := hl
  refine lv_aload_n X.1 X.2.1 zd_W_add_0 rfl (lv_at hl 0 rfl) ?_
  refine g_cW_targets X hP zd_W_add_1 ?_
  refine lv_iload_n X.1 X.2.1 zd_W_add_4 rfl (lv_at hl 1 rfl) ?_
  refine z_callVi (As := [.int x]) (rest := []) (q0 := 1) (ci := 0) X hml (k_T_has l K G A hD σ x) (zk_W_44 X.2.2.2.1 (z_rm (by omega) (by decide))) rfl rfl rfl hP hS rfl hl.1 rfl (Nat.le_of_ble_eq_true rfl) zd_W_add_5 ⟨Nat.zero_le _, Nat.zero_le _⟩ (fun H locs hP hS => ?_)
  refine lv_if_eq (tgt := 33) X.1 X.2.1 zd_W_add_8 (by decide) (fun c1 => ?_) (fun c1 => ?_)
  · rw [z_eq0 (cHas_lt _ _)] at c1
    refine lv_iconst (v := nI 0) X.1 X.2.1 zd_W_add_33 (by decide) ?_
    exact z_zret X.1 X.2.1 hr hlocks (Or.inl rfl) rfl rfl hP hS zd_W_add_34
  · rw [z_eq0 (cHas_lt _ _)] at c1
    obtain ⟨n, hn, rfl⟩ := cHas_ex (by omega) c1
    refine lv_aload_n X.1 X.2.1 zd_W_add_11 rfl (lv_at hl 0 rfl) ?_
    refine g_cW_targets X hP zd_W_add_12 ?_
    refine lv_iload_n X.1 X.2.1 zd_W_add_15 rfl (lv_at hl 3 rfl) ?_
    refine z_callVi (As := [.int z]) (rest := []) (q0 := 1) (ci := 0) X hml (k_T_has l K G A hD σ z) (zk_W_44 X.2.2.2.1 (z_rm (by omega) (by decide))) rfl rfl rfl hP hS rfl hl.1 rfl (Nat.le_of_ble_eq_true rfl) zd_W_add_16 ⟨Nat.zero_le _, Nat.zero_le _⟩ (fun H locs hP hS => ?_)
    refine lv_if_eq (tgt := 33) X.1 X.2.1 zd_W_add_19 (by decide) (fun c2 => ?_) (fun c2 => ?_)
    · rw [z_eq0 (cHas_lt _ _)] at c2
      refine lv_iconst (v := nI 0) X.1 X.2.1 zd_W_add_33 (by decide) ?_
      exact z_zret X.1 X.2.1 hr hlocks (Or.inl rfl) rfl rfl hP hS zd_W_add_34
    · rw [z_eq0 (cHas_lt _ _)] at c2
      obtain ⟨o, ho, rfl⟩ := cHas_ex (by omega) c2
      refine lv_aload_n X.1 X.2.1 zd_W_add_22 rfl (lv_at hl 0 rfl) ?_
      refine g_cW_targets X hP zd_W_add_23 ?_
      refine lv_iload_n X.1 X.2.1 zd_W_add_26 rfl (lv_at hl 1 rfl) ?_
      refine z_callVi (As := [.int (nI n)]) (rest := []) (q0 := 1) (ci := 0) X hml (k_T_isAlias l K G A hD σ n (by omega) (hB.2.2.1 _)) (zk_W_55 X.2.2.2.1 (z_rm (by omega) (by decide))) rfl rfl rfl hP hS rfl hl.1 rfl (Nat.le_of_ble_eq_true rfl) zd_W_add_27 ⟨Nat.zero_le _, Nat.zero_le _⟩ (fun H locs hP hS => ?_)
      refine lv_if_eq (tgt := 35) X.1 X.2.1 zd_W_add_30 (by decide) (fun c3 => ?_) (fun c3 => ?_)
      · rw [z_eq0 z_if_lt] at c3
        refine lv_iload_n X.1 X.2.1 zd_W_add_35 rfl (lv_at hl 2 rfl) ?_
        refine lv_if_lt (tgt := 49) X.1 X.2.1 zd_W_add_36 (by decide) (fun c4 => ?_) (fun c4 => ?_)
        · refine lv_iconst (v := nI 0) X.1 X.2.1 zd_W_add_49 (by decide) ?_
          exact z_zret X.1 X.2.1 hr hlocks (Or.inl rfl) rfl rfl hP hS zd_W_add_50
        · refine lv_iload_n X.1 X.2.1 zd_W_add_39 rfl (lv_at hl 2 rfl) ?_
          refine lv_iconst (v := nI 3) X.1 X.2.1 zd_W_add_40 (by decide) ?_
          refine lv_icmp_ge (tgt := 49) X.1 X.2.1 zd_W_add_41 (by decide) (fun c5 => ?_) (fun c5 => ?_)
          · refine lv_iconst (v := nI 0) X.1 X.2.1 zd_W_add_49 (by decide) ?_
            exact z_zret X.1 X.2.1 hr hlocks (Or.inl rfl) rfl rfl hP hS zd_W_add_50
          · obtain ⟨w, hw, rfl⟩ := z_rng c4 c5 (by decide)
            refine lv_iload_n X.1 X.2.1 zd_W_add_44 rfl (lv_at hl 3 rfl) ?_
            refine lv_iload_n X.1 X.2.1 zd_W_add_45 rfl (lv_at hl 1 rfl) ?_
            refine lv_icmp_lt (tgt := 51) X.1 X.2.1 zd_W_add_46 (by decide) (fun c6 => ?_) (fun c6 => ?_)
            · rw [nI_ltI (by omega) (by omega)] at c6
              exact absurd ⟨n, o, w, hn, rfl, ho, rfl, (by simpa using c3), hw, rfl, c6⟩ h
            · rw [nI_ltI (by omega) (by omega)] at c6
              refine lv_iconst (v := nI 0) X.1 X.2.1 zd_W_add_49 (by decide) ?_
              exact z_zret X.1 X.2.1 hr hlocks (Or.inl rfl) rfl rfl hP hS zd_W_add_50
      · rw [z_eq0 z_if_lt] at c3
        refine lv_iconst (v := nI 0) X.1 X.2.1 zd_W_add_33 (by decide) ?_
        exact z_zret X.1 X.2.1 hr hlocks (Or.inl rfl) rfl rfl hP hS zd_W_add_34

set_option maxHeartbeats 4000000 in
set_option maxRecDepth 100000 in
/-- add: the row is full -/
theorem k_W_add_0 (l : Launch) (K : zK) (G : Nat → Nat) (A : Nat → Prop) (hD : ∀ σ, va_D A (cW K G σ)) (σ : cS) (n w o : Nat) (hn : n < cT_opened σ) (ho : o < cT_opened σ) (he : cT_ends σ n = n) (hw : w < 3) (hon : o < n) (h4 : cT_rowLengths σ (n * 3 + w) = 4) (hB : cB σ) : zMet l K A zy_W_add zws_W_add 3 [.ref (G 0), .int (nI n), .int (nI w), .int (nI o)] (cW K G σ) (cW K G σ) (some (.int (nI 0))) := by
  have hBo := hB.1
  have hBa := hB.2.1
  refine z_entry (by decide) (Nat.le_of_ble_eq_true rfl) ?_
  intro p e s m below meth c ls X hr hml hlocks hP hl
  have hS : va_S A s.heap s.heap [] := va_S.rf
  have hl : lv_has ls 4 [(0, .ref (G 0)), (1, .int (nI n)), (2, .int (nI w)), (3, .int (nI o))] := hl
  refine lv_aload_n X.1 X.2.1 zd_W_add_0 rfl (lv_at hl 0 rfl) ?_
  refine g_cW_targets X hP zd_W_add_1 ?_
  refine lv_iload_n X.1 X.2.1 zd_W_add_4 rfl (lv_at hl 1 rfl) ?_
  refine z_callVi (As := [.int (nI n)]) (rest := []) (q0 := 1) (ci := 0) X hml (k_T_has l K G A hD σ (nI n)) (zk_W_44 X.2.2.2.1 (z_rm (by omega) (by decide))) rfl rfl rfl hP hS rfl hl.1 rfl (Nat.le_of_ble_eq_true rfl) zd_W_add_5 ⟨Nat.zero_le _, Nat.zero_le _⟩ (fun H locs hP hS => ?_)
  refine lv_if_eq (tgt := 33) X.1 X.2.1 zd_W_add_8 (by decide) (fun h9 => absurd h9 (by rw [cHas_y hn (by omega)]; decide)) (fun _ => ?_)
  refine lv_aload_n X.1 X.2.1 zd_W_add_11 rfl (lv_at hl 0 rfl) ?_
  refine g_cW_targets X hP zd_W_add_12 ?_
  refine lv_iload_n X.1 X.2.1 zd_W_add_15 rfl (lv_at hl 3 rfl) ?_
  refine z_callVi (As := [.int (nI o)]) (rest := []) (q0 := 1) (ci := 0) X hml (k_T_has l K G A hD σ (nI o)) (zk_W_44 X.2.2.2.1 (z_rm (by omega) (by decide))) rfl rfl rfl hP hS rfl hl.1 rfl (Nat.le_of_ble_eq_true rfl) zd_W_add_16 ⟨Nat.zero_le _, Nat.zero_le _⟩ (fun H locs hP hS => ?_)
  refine lv_if_eq (tgt := 33) X.1 X.2.1 zd_W_add_19 (by decide) (fun h9 => absurd h9 (by rw [cHas_y ho (by omega)]; decide)) (fun _ => ?_)
  refine lv_aload_n X.1 X.2.1 zd_W_add_22 rfl (lv_at hl 0 rfl) ?_
  refine g_cW_targets X hP zd_W_add_23 ?_
  refine lv_iload_n X.1 X.2.1 zd_W_add_26 rfl (lv_at hl 1 rfl) ?_
  refine z_callVi (As := [.int (nI n)]) (rest := []) (q0 := 1) (ci := 0) X hml (k_T_isAlias l K G A hD σ n (by omega) (hB.2.2.1 _)) (zk_W_55 X.2.2.2.1 (z_rm (by omega) (by decide))) rfl rfl rfl hP hS rfl hl.1 rfl (Nat.le_of_ble_eq_true rfl) zd_W_add_27 ⟨Nat.zero_le _, Nat.zero_le _⟩ (fun H locs hP hS => ?_)
  refine lv_if_eq (tgt := 35) X.1 X.2.1 zd_W_add_30 (by decide) (fun _ => ?_) (fun h9 => absurd (by rw [if_pos he]; rfl) h9)
  refine lv_iload_n X.1 X.2.1 zd_W_add_35 rfl (lv_at hl 2 rfl) ?_
  refine lv_if_lt (tgt := 49) X.1 X.2.1 zd_W_add_36 (by decide) (fun h9 => absurd h9 (nI_pos (by omega))) (fun _ => ?_)
  refine lv_iload_n X.1 X.2.1 zd_W_add_39 rfl (lv_at hl 2 rfl) ?_
  refine lv_iconst (v := nI 3) X.1 X.2.1 zd_W_add_40 (by decide) ?_
  refine lv_icmp_ge (tgt := 49) X.1 X.2.1 zd_W_add_41 (by decide) (fun h9 => absurd h9 (by rw [nI_leI (by omega) (by omega)]; omega)) (fun _ => ?_)
  refine lv_iload_n X.1 X.2.1 zd_W_add_44 rfl (lv_at hl 3 rfl) ?_
  refine lv_iload_n X.1 X.2.1 zd_W_add_45 rfl (lv_at hl 1 rfl) ?_
  refine lv_icmp_lt (tgt := 51) X.1 X.2.1 zd_W_add_46 (by decide) (fun _ => ?_) (fun h9 => absurd (by rw [nI_ltI (by omega) (by omega)]; omega) h9)
  refine lv_aload_n X.1 X.2.1 zd_W_add_51 rfl (lv_at hl 0 rfl) ?_
  refine g_cW_targets X hP zd_W_add_52 ?_
  refine lv_iload_n X.1 X.2.1 zd_W_add_55 rfl (lv_at hl 1 rfl) ?_
  refine lv_iload_n X.1 X.2.1 zd_W_add_56 rfl (lv_at hl 2 rfl) ?_
  refine lv_aload_n X.1 X.2.1 zd_W_add_57 rfl (lv_at hl 0 rfl) ?_
  refine g_cW_targets X hP zd_W_add_58 ?_
  refine lv_iload_n X.1 X.2.1 zd_W_add_61 rfl (lv_at hl 3 rfl) ?_
  refine z_callVi (As := [.int (nI o)]) (rest := [.int (nI w), .int (nI n), .ref (G 1)]) (q0 := 1) (ci := 0) X hml (k_T_end l K G A hD σ o (by omega)) (zk_W_52 X.2.2.2.1 (z_rm (by omega) (by decide))) rfl rfl rfl hP hS rfl hl.1 rfl (Nat.le_of_ble_eq_true rfl) zd_W_add_62 ⟨Nat.zero_le _, Nat.zero_le _⟩ (fun H locs hP hS => ?_)
  refine z_callVi (As := [.int (nI n), .int (nI w), .int (nI (cT_ends σ o))]) (rest := []) (q0 := 1) (ci := 0) X hml (k_T_append_0 l K G A hD σ n w (cT_ends σ o) (by omega) hw h4) (zk_W_58 X.2.2.2.1 (z_rm (by omega) (by decide))) rfl rfl rfl hP hS rfl hl.1 rfl (Nat.le_of_ble_eq_true rfl) zd_W_add_65 ⟨Nat.zero_le _, Nat.zero_le _⟩ (fun H locs hP hS => ?_)
  refine lv_if_ne (tgt := 73) X.1 X.2.1 zd_W_add_68 (by decide) (fun h9 => absurd (by decide) h9) (fun _ => ?_)
  refine lv_iconst (v := nI 0) X.1 X.2.1 zd_W_add_71 (by decide) ?_
  exact z_zret X.1 X.2.1 hr hlocks (Or.inl rfl) rfl rfl hP hS zd_W_add_72

set_option maxHeartbeats 4000000 in
set_option maxRecDepth 100000 in
/-- add -/
theorem k_W_add_1 (l : Launch) (K : zK) (G : Nat → Nat) (A : Nat → Prop) (hD : ∀ σ, va_D A (cW K G σ)) (σ : cS) (n w o : Nat) (hn : n < cT_opened σ) (ho : o < cT_opened σ) (he : cT_ends σ n = n) (hw : w < 3) (hon : o < n) (h4 : cT_rowLengths σ (n * 3 + w) < 4) (hB2 : cB (cAppend σ n w (cT_ends σ o))) (hB : cB σ) : zMet l K A zy_W_add zws_W_add 3 [.ref (G 0), .int (nI n), .int (nI w), .int (nI o)] (cW K G σ) (cW K G (cFF (cAppend σ n w (cT_ends σ o)) n (cT_opened (cAppend σ n w (cT_ends σ o))))) (some (.int (nI 1))) := by
  have hBo := hB.1
  have hBa := hB.2.1
  refine z_entry (by decide) (Nat.le_of_ble_eq_true rfl) ?_
  intro p e s m below meth c ls X hr hml hlocks hP hl
  have hS : va_S A s.heap s.heap [] := va_S.rf
  have hl : lv_has ls 4 [(0, .ref (G 0)), (1, .int (nI n)), (2, .int (nI w)), (3, .int (nI o))] := hl
  refine lv_aload_n X.1 X.2.1 zd_W_add_0 rfl (lv_at hl 0 rfl) ?_
  refine g_cW_targets X hP zd_W_add_1 ?_
  refine lv_iload_n X.1 X.2.1 zd_W_add_4 rfl (lv_at hl 1 rfl) ?_
  refine z_callVi (As := [.int (nI n)]) (rest := []) (q0 := 1) (ci := 0) X hml (k_T_has l K G A hD σ (nI n)) (zk_W_44 X.2.2.2.1 (z_rm (by omega) (by decide))) rfl rfl rfl hP hS rfl hl.1 rfl (Nat.le_of_ble_eq_true rfl) zd_W_add_5 ⟨Nat.zero_le _, Nat.zero_le _⟩ (fun H locs hP hS => ?_)
  refine lv_if_eq (tgt := 33) X.1 X.2.1 zd_W_add_8 (by decide) (fun h9 => absurd h9 (by rw [cHas_y hn (by omega)]; decide)) (fun _ => ?_)
  refine lv_aload_n X.1 X.2.1 zd_W_add_11 rfl (lv_at hl 0 rfl) ?_
  refine g_cW_targets X hP zd_W_add_12 ?_
  refine lv_iload_n X.1 X.2.1 zd_W_add_15 rfl (lv_at hl 3 rfl) ?_
  refine z_callVi (As := [.int (nI o)]) (rest := []) (q0 := 1) (ci := 0) X hml (k_T_has l K G A hD σ (nI o)) (zk_W_44 X.2.2.2.1 (z_rm (by omega) (by decide))) rfl rfl rfl hP hS rfl hl.1 rfl (Nat.le_of_ble_eq_true rfl) zd_W_add_16 ⟨Nat.zero_le _, Nat.zero_le _⟩ (fun H locs hP hS => ?_)
  refine lv_if_eq (tgt := 33) X.1 X.2.1 zd_W_add_19 (by decide) (fun h9 => absurd h9 (by rw [cHas_y ho (by omega)]; decide)) (fun _ => ?_)
  refine lv_aload_n X.1 X.2.1 zd_W_add_22 rfl (lv_at hl 0 rfl) ?_
  refine g_cW_targets X hP zd_W_add_23 ?_
  refine lv_iload_n X.1 X.2.1 zd_W_add_26 rfl (lv_at hl 1 rfl) ?_
  refine z_callVi (As := [.int (nI n)]) (rest := []) (q0 := 1) (ci := 0) X hml (k_T_isAlias l K G A hD σ n (by omega) (hB.2.2.1 _)) (zk_W_55 X.2.2.2.1 (z_rm (by omega) (by decide))) rfl rfl rfl hP hS rfl hl.1 rfl (Nat.le_of_ble_eq_true rfl) zd_W_add_27 ⟨Nat.zero_le _, Nat.zero_le _⟩ (fun H locs hP hS => ?_)
  refine lv_if_eq (tgt := 35) X.1 X.2.1 zd_W_add_30 (by decide) (fun _ => ?_) (fun h9 => absurd (by rw [if_pos he]; rfl) h9)
  refine lv_iload_n X.1 X.2.1 zd_W_add_35 rfl (lv_at hl 2 rfl) ?_
  refine lv_if_lt (tgt := 49) X.1 X.2.1 zd_W_add_36 (by decide) (fun h9 => absurd h9 (nI_pos (by omega))) (fun _ => ?_)
  refine lv_iload_n X.1 X.2.1 zd_W_add_39 rfl (lv_at hl 2 rfl) ?_
  refine lv_iconst (v := nI 3) X.1 X.2.1 zd_W_add_40 (by decide) ?_
  refine lv_icmp_ge (tgt := 49) X.1 X.2.1 zd_W_add_41 (by decide) (fun h9 => absurd h9 (by rw [nI_leI (by omega) (by omega)]; omega)) (fun _ => ?_)
  refine lv_iload_n X.1 X.2.1 zd_W_add_44 rfl (lv_at hl 3 rfl) ?_
  refine lv_iload_n X.1 X.2.1 zd_W_add_45 rfl (lv_at hl 1 rfl) ?_
  refine lv_icmp_lt (tgt := 51) X.1 X.2.1 zd_W_add_46 (by decide) (fun _ => ?_) (fun h9 => absurd (by rw [nI_ltI (by omega) (by omega)]; omega) h9)
  refine lv_aload_n X.1 X.2.1 zd_W_add_51 rfl (lv_at hl 0 rfl) ?_
  refine g_cW_targets X hP zd_W_add_52 ?_
  refine lv_iload_n X.1 X.2.1 zd_W_add_55 rfl (lv_at hl 1 rfl) ?_
  refine lv_iload_n X.1 X.2.1 zd_W_add_56 rfl (lv_at hl 2 rfl) ?_
  refine lv_aload_n X.1 X.2.1 zd_W_add_57 rfl (lv_at hl 0 rfl) ?_
  refine g_cW_targets X hP zd_W_add_58 ?_
  refine lv_iload_n X.1 X.2.1 zd_W_add_61 rfl (lv_at hl 3 rfl) ?_
  refine z_callVi (As := [.int (nI o)]) (rest := [.int (nI w), .int (nI n), .ref (G 1)]) (q0 := 1) (ci := 0) X hml (k_T_end l K G A hD σ o (by omega)) (zk_W_52 X.2.2.2.1 (z_rm (by omega) (by decide))) rfl rfl rfl hP hS rfl hl.1 rfl (Nat.le_of_ble_eq_true rfl) zd_W_add_62 ⟨Nat.zero_le _, Nat.zero_le _⟩ (fun H locs hP hS => ?_)
  refine z_callVi (As := [.int (nI n), .int (nI w), .int (nI (cT_ends σ o))]) (rest := []) (q0 := 1) (ci := 0) X hml (k_T_append_1 l K G A hD σ n w (cT_ends σ o) (by omega) hw (hB.2.2.1 _) hB.1 h4) (zk_W_58 X.2.2.2.1 (z_rm (by omega) (by decide))) rfl rfl rfl hP hS rfl hl.1 rfl (Nat.le_of_ble_eq_true rfl) zd_W_add_65 ⟨Nat.zero_le _, Nat.zero_le _⟩ (fun H locs hP hS => ?_)
  refine lv_if_ne (tgt := 73) X.1 X.2.1 zd_W_add_68 (by decide) (fun _ => ?_) (fun h9 => absurd h9 (by decide))
  refine lv_aload_n X.1 X.2.1 zd_W_add_73 rfl (lv_at hl 0 rfl) ?_
  refine lv_iload_n X.1 X.2.1 zd_W_add_74 rfl (lv_at hl 1 rfl) ?_
  refine z_callVv (As := [.int (nI n)]) (rest := []) (q0 := 0) (ci := 3) X hml (k_W_forgetFrom l K G A hD (cAppend σ n w (cT_ends σ o)) n hB2) (zk_W_62 X.2.2.2.1 (z_rm (by omega) (by decide))) rfl rfl rfl hP hS rfl hl.1 rfl (Nat.le_of_ble_eq_true rfl) zd_W_add_75 ⟨Nat.zero_le _, Nat.zero_le _⟩ (fun H locs hP hS => ?_)
  refine lv_iconst (v := nI 1) X.1 X.2.1 zd_W_add_78 (by decide) ?_
  exact z_zret X.1 X.2.1 hr hlocks (Or.inr rfl) rfl rfl hP hS zd_W_add_79

set_option maxHeartbeats 4000000 in
set_option maxRecDepth 100000 in
/-- change: refused -/
theorem k_W_change_bad (l : Launch) (K : zK) (G : Nat → Nat) (A : Nat → Prop) (hD : ∀ σ, va_D A (cW K G σ)) (σ : cS) (x : Int32) (v : Int64) (g : Int32) (h : ¬ ∃ n, n < cT_opened σ ∧ x = nI n ∧ cT_ends σ n = n) (hB : cB σ) : zMet l K A zy_W_change zws_W_change 1 [.ref (G 0), .int x, .long v, .int g] (cW K G σ) (cW K G σ) (some (.int (nI 0))) := by
  have hBo := hB.1
  have hBa := hB.2.1
  refine z_entry (by decide) (Nat.le_of_ble_eq_true rfl) ?_
  intro p e s m below meth c ls X hr hml hlocks hP hl
  have hS : va_S A s.heap s.heap [] := va_S.rf
  have hl : lv_has ls 5 [(0, .ref (G 0)), (1, .int x), (2, .long v), (4, .int g)] := hl
  refine lv_aload_n X.1 X.2.1 zd_W_change_0 rfl (lv_at hl 0 rfl) ?_
  refine g_cW_targets X hP zd_W_change_1 ?_
  refine lv_iload_n X.1 X.2.1 zd_W_change_4 rfl (lv_at hl 1 rfl) ?_
  refine z_callVi (As := [.int x]) (rest := []) (q0 := 1) (ci := 0) X hml (k_T_has l K G A hD σ x) (zk_W_44 X.2.2.2.1 (z_rm (by omega) (by decide))) rfl rfl rfl hP hS rfl hl.1 rfl (Nat.le_of_ble_eq_true rfl) zd_W_change_5 ⟨Nat.zero_le _, Nat.zero_le _⟩ (fun H locs hP hS => ?_)
  refine lv_if_eq (tgt := 22) X.1 X.2.1 zd_W_change_8 (by decide) (fun c1 => ?_) (fun c1 => ?_)
  · rw [z_eq0 (cHas_lt _ _)] at c1
    refine lv_iconst (v := nI 0) X.1 X.2.1 zd_W_change_22 (by decide) ?_
    exact z_zret X.1 X.2.1 hr hlocks (Or.inl rfl) rfl rfl hP hS zd_W_change_23
  · rw [z_eq0 (cHas_lt _ _)] at c1
    obtain ⟨n, hn, rfl⟩ := cHas_ex (by omega) c1
    refine lv_aload_n X.1 X.2.1 zd_W_change_11 rfl (lv_at hl 0 rfl) ?_
    refine g_cW_targets X hP zd_W_change_12 ?_
    refine lv_iload_n X.1 X.2.1 zd_W_change_15 rfl (lv_at hl 1 rfl) ?_
    refine z_callVi (As := [.int (nI n)]) (rest := []) (q0 := 1) (ci := 0) X hml (k_T_isAlias l K G A hD σ n (by omega) (hB.2.2.1 _)) (zk_W_55 X.2.2.2.1 (z_rm (by omega) (by decide))) rfl rfl rfl hP hS rfl hl.1 rfl (Nat.le_of_ble_eq_true rfl) zd_W_change_16 ⟨Nat.zero_le _, Nat.zero_le _⟩ (fun H locs hP hS => ?_)
    refine lv_if_eq (tgt := 24) X.1 X.2.1 zd_W_change_19 (by decide) (fun c2 => ?_) (fun c2 => ?_)
    · rw [z_eq0 z_if_lt] at c2
      exact absurd ⟨n, hn, rfl, (by simpa using c2)⟩ h
    · rw [z_eq0 z_if_lt] at c2
      refine lv_iconst (v := nI 0) X.1 X.2.1 zd_W_change_22 (by decide) ?_
      exact z_zret X.1 X.2.1 hr hlocks (Or.inl rfl) rfl rfl hP hS zd_W_change_23

set_option maxHeartbeats 4000000 in
set_option maxRecDepth 100000 in
/-- change: the same -/
theorem k_W_change_s (l : Launch) (K : zK) (G : Nat → Nat) (A : Nat → Prop) (hD : ∀ σ, va_D A (cW K G σ)) (σ : cS) (n : Nat) (v : Int64) (g : Int32) (hn : n < cT_opened σ) (he : cT_ends σ n = n) (hd : cDiffers σ n v (g &&& nI 255) = 0) (hB : cB σ) : zMet l K A zy_W_change zws_W_change 3 [.ref (G 0), .int (nI n), .long v, .int g] (cW K G σ) (cW K G (cAssign σ n v (g &&& nI 255))) (some (.int (nI 1))) := by
  have hBo := hB.1
  have hBa := hB.2.1
  refine z_entry (by decide) (Nat.le_of_ble_eq_true rfl) ?_
  intro p e s m below meth c ls X hr hml hlocks hP hl
  have hS : va_S A s.heap s.heap [] := va_S.rf
  have hl : lv_has ls 5 [(0, .ref (G 0)), (1, .int (nI n)), (2, .long v), (4, .int g)] := hl
  refine lv_aload_n X.1 X.2.1 zd_W_change_0 rfl (lv_at hl 0 rfl) ?_
  refine g_cW_targets X hP zd_W_change_1 ?_
  refine lv_iload_n X.1 X.2.1 zd_W_change_4 rfl (lv_at hl 1 rfl) ?_
  refine z_callVi (As := [.int (nI n)]) (rest := []) (q0 := 1) (ci := 0) X hml (k_T_has l K G A hD σ (nI n)) (zk_W_44 X.2.2.2.1 (z_rm (by omega) (by decide))) rfl rfl rfl hP hS rfl hl.1 rfl (Nat.le_of_ble_eq_true rfl) zd_W_change_5 ⟨Nat.zero_le _, Nat.zero_le _⟩ (fun H locs hP hS => ?_)
  refine lv_if_eq (tgt := 22) X.1 X.2.1 zd_W_change_8 (by decide) (fun h9 => absurd h9 (by rw [cHas_y hn (by omega)]; decide)) (fun _ => ?_)
  refine lv_aload_n X.1 X.2.1 zd_W_change_11 rfl (lv_at hl 0 rfl) ?_
  refine g_cW_targets X hP zd_W_change_12 ?_
  refine lv_iload_n X.1 X.2.1 zd_W_change_15 rfl (lv_at hl 1 rfl) ?_
  refine z_callVi (As := [.int (nI n)]) (rest := []) (q0 := 1) (ci := 0) X hml (k_T_isAlias l K G A hD σ n (by omega) (hB.2.2.1 _)) (zk_W_55 X.2.2.2.1 (z_rm (by omega) (by decide))) rfl rfl rfl hP hS rfl hl.1 rfl (Nat.le_of_ble_eq_true rfl) zd_W_change_16 ⟨Nat.zero_le _, Nat.zero_le _⟩ (fun H locs hP hS => ?_)
  refine lv_if_eq (tgt := 24) X.1 X.2.1 zd_W_change_19 (by decide) (fun _ => ?_) (fun h9 => absurd (by rw [if_pos he]; rfl) h9)
  refine lv_aload_n X.1 X.2.1 zd_W_change_24 rfl (lv_at hl 0 rfl) ?_
  refine g_cW_targets X hP zd_W_change_25 ?_
  refine lv_iload_n X.1 X.2.1 zd_W_change_28 rfl (lv_at hl 1 rfl) ?_
  refine lv_lload_n X.1 X.2.1 zd_W_change_29 rfl (lv_at hl 2 rfl) ?_
  refine lv_iload X.1 X.2.1 zd_W_change_30 (lv_at hl 3 rfl) ?_
  refine lv_sipush (v := nI 255) X.1 X.2.1 zd_W_change_32 (by decide) ?_
  refine lv_iand X.1 X.2.1 zd_W_change_35 ?_
  refine z_callVi (As := [.int (nI n), .long v, .int (g &&& (nI 255))]) (rest := []) (q0 := 1) (ci := 0) X hml (k_T_assign l K G A hD σ n v (g &&& (nI 255)) (by omega)) (zk_W_66 X.2.2.2.1 (z_rm (by omega) (by decide))) rfl rfl rfl hP hS rfl hl.1 rfl (Nat.le_of_ble_eq_true rfl) zd_W_change_36 ⟨Nat.zero_le _, Nat.zero_le _⟩ (fun H locs hP hS => ?_)
  refine lv_if_eq (tgt := 47) X.1 X.2.1 zd_W_change_39 (by decide) (fun _ => ?_) (fun h9 => absurd (by rw [hd]; rfl) h9)
  refine lv_iconst (v := nI 1) X.1 X.2.1 zd_W_change_47 (by decide) ?_
  exact z_zret X.1 X.2.1 hr hlocks (Or.inr rfl) rfl rfl hP hS zd_W_change_48

set_option maxHeartbeats 4000000 in
set_option maxRecDepth 100000 in
/-- change: another -/
theorem k_W_change_d (l : Launch) (K : zK) (G : Nat → Nat) (A : Nat → Prop) (hD : ∀ σ, va_D A (cW K G σ)) (σ : cS) (n : Nat) (v : Int64) (g : Int32) (hn : n < cT_opened σ) (he : cT_ends σ n = n) (hd : ¬ cDiffers σ n v (g &&& nI 255) = 0) (hB2 : cB (cAssign σ n v (g &&& nI 255))) (hB : cB σ) : zMet l K A zy_W_change zws_W_change 3 [.ref (G 0), .int (nI n), .long v, .int g] (cW K G σ) (cW K G (cFF (cAssign σ n v (g &&& nI 255)) n (cT_opened (cAssign σ n v (g &&& nI 255))))) (some (.int (nI 1))) := by
  have hBo := hB.1
  have hBa := hB.2.1
  refine z_entry (by decide) (Nat.le_of_ble_eq_true rfl) ?_
  intro p e s m below meth c ls X hr hml hlocks hP hl
  have hS : va_S A s.heap s.heap [] := va_S.rf
  have hl : lv_has ls 5 [(0, .ref (G 0)), (1, .int (nI n)), (2, .long v), (4, .int g)] := hl
  refine lv_aload_n X.1 X.2.1 zd_W_change_0 rfl (lv_at hl 0 rfl) ?_
  refine g_cW_targets X hP zd_W_change_1 ?_
  refine lv_iload_n X.1 X.2.1 zd_W_change_4 rfl (lv_at hl 1 rfl) ?_
  refine z_callVi (As := [.int (nI n)]) (rest := []) (q0 := 1) (ci := 0) X hml (k_T_has l K G A hD σ (nI n)) (zk_W_44 X.2.2.2.1 (z_rm (by omega) (by decide))) rfl rfl rfl hP hS rfl hl.1 rfl (Nat.le_of_ble_eq_true rfl) zd_W_change_5 ⟨Nat.zero_le _, Nat.zero_le _⟩ (fun H locs hP hS => ?_)
  refine lv_if_eq (tgt := 22) X.1 X.2.1 zd_W_change_8 (by decide) (fun h9 => absurd h9 (by rw [cHas_y hn (by omega)]; decide)) (fun _ => ?_)
  refine lv_aload_n X.1 X.2.1 zd_W_change_11 rfl (lv_at hl 0 rfl) ?_
  refine g_cW_targets X hP zd_W_change_12 ?_
  refine lv_iload_n X.1 X.2.1 zd_W_change_15 rfl (lv_at hl 1 rfl) ?_
  refine z_callVi (As := [.int (nI n)]) (rest := []) (q0 := 1) (ci := 0) X hml (k_T_isAlias l K G A hD σ n (by omega) (hB.2.2.1 _)) (zk_W_55 X.2.2.2.1 (z_rm (by omega) (by decide))) rfl rfl rfl hP hS rfl hl.1 rfl (Nat.le_of_ble_eq_true rfl) zd_W_change_16 ⟨Nat.zero_le _, Nat.zero_le _⟩ (fun H locs hP hS => ?_)
  refine lv_if_eq (tgt := 24) X.1 X.2.1 zd_W_change_19 (by decide) (fun _ => ?_) (fun h9 => absurd (by rw [if_pos he]; rfl) h9)
  refine lv_aload_n X.1 X.2.1 zd_W_change_24 rfl (lv_at hl 0 rfl) ?_
  refine g_cW_targets X hP zd_W_change_25 ?_
  refine lv_iload_n X.1 X.2.1 zd_W_change_28 rfl (lv_at hl 1 rfl) ?_
  refine lv_lload_n X.1 X.2.1 zd_W_change_29 rfl (lv_at hl 2 rfl) ?_
  refine lv_iload X.1 X.2.1 zd_W_change_30 (lv_at hl 3 rfl) ?_
  refine lv_sipush (v := nI 255) X.1 X.2.1 zd_W_change_32 (by decide) ?_
  refine lv_iand X.1 X.2.1 zd_W_change_35 ?_
  refine z_callVi (As := [.int (nI n), .long v, .int (g &&& (nI 255))]) (rest := []) (q0 := 1) (ci := 0) X hml (k_T_assign l K G A hD σ n v (g &&& (nI 255)) (by omega)) (zk_W_66 X.2.2.2.1 (z_rm (by omega) (by decide))) rfl rfl rfl hP hS rfl hl.1 rfl (Nat.le_of_ble_eq_true rfl) zd_W_change_36 ⟨Nat.zero_le _, Nat.zero_le _⟩ (fun H locs hP hS => ?_)
  refine lv_if_eq (tgt := 47) X.1 X.2.1 zd_W_change_39 (by decide) (fun h9 => absurd h9 (by rw [z_eq0 (by unfold cDiffers; split <;> decide)]; exact hd)) (fun _ => ?_)
  refine lv_aload_n X.1 X.2.1 zd_W_change_42 rfl (lv_at hl 0 rfl) ?_
  refine lv_iload_n X.1 X.2.1 zd_W_change_43 rfl (lv_at hl 1 rfl) ?_
  refine z_callVv (As := [.int (nI n)]) (rest := []) (q0 := 0) (ci := 3) X hml (k_W_forgetFrom l K G A hD (cAssign σ n v (g &&& (nI 255))) n hB2) (zk_W_62 X.2.2.2.1 (z_rm (by omega) (by decide))) rfl rfl rfl hP hS rfl hl.1 rfl (Nat.le_of_ble_eq_true rfl) zd_W_change_44 ⟨Nat.zero_le _, Nat.zero_le _⟩ (fun H locs hP hS => ?_)
  refine lv_iconst (v := nI 1) X.1 X.2.1 zd_W_change_47 (by decide) ?_
  exact z_zret X.1 X.2.1 hr hlocks (Or.inr rfl) rfl rfl hP hS zd_W_change_48

set_option maxHeartbeats 4000000 in
set_option maxRecDepth 100000 in
/-- aspect: refused -/
theorem k_W_aspect_bad (l : Launch) (K : zK) (G : Nat → Nat) (A : Nat → Prop) (hD : ∀ σ, va_D A (cW K G σ)) (σ : cS) (x al w g y : Int32) (h : ¬ ∃ q, q < 4 ∧ x = nI q ∧ ¬ y < -1 ∧ y < nI 10) (hB : cB σ) : zMet l K A zy_W_aspect zws_W_aspect 1 [.ref (G 0), .int x, .int al, .int w, .int g, .int y] (cW K G σ) (cW K G σ) (some (.int (-1))) := by
  have hBo := hB.1
  have hBa := hB.2.1
  refine z_entry (by decide) (Nat.le_of_ble_eq_true rfl) ?_
  intro p e s m below meth c ls X hr hml hlocks hP hl
  have hS : va_S A s.heap s.heap [] := va_S.rf
  have hl : lv_has ls 6 [(0, .ref (G 0)), (1, .int x), (2, .int al), (3, .int w), (4, .int g), (5, .int y)] := hl
  refine lv_iload_n X.1 X.2.1 zd_W_aspect_0 rfl (lv_at hl 1 rfl) ?_
  refine lv_if_lt (tgt := 22) X.1 X.2.1 zd_W_aspect_1 (by decide) (fun c1 => ?_) (fun c1 => ?_)
  · refine lv_iconst (v := -1) X.1 X.2.1 zd_W_aspect_22 (by decide) ?_
    exact z_iret X.1 X.2.1 hr hlocks rfl rfl hP hS zd_W_aspect_23
  · refine lv_iload_n X.1 X.2.1 zd_W_aspect_4 rfl (lv_at hl 1 rfl) ?_
    refine lv_iconst (v := nI 4) X.1 X.2.1 zd_W_aspect_5 (by decide) ?_
    refine lv_icmp_ge (tgt := 22) X.1 X.2.1 zd_W_aspect_6 (by decide) (fun c2 => ?_) (fun c2 => ?_)
    · refine lv_iconst (v := -1) X.1 X.2.1 zd_W_aspect_22 (by decide) ?_
      exact z_iret X.1 X.2.1 hr hlocks rfl rfl hP hS zd_W_aspect_23
    · obtain ⟨q, hq, rfl⟩ := z_rng c1 c2 (by decide)
      refine lv_iload X.1 X.2.1 zd_W_aspect_9 (lv_at hl 5 rfl) ?_
      refine lv_iconst (v := -1) X.1 X.2.1 zd_W_aspect_11 (by decide) ?_
      refine lv_icmp_lt (tgt := 22) X.1 X.2.1 zd_W_aspect_12 (by decide) (fun c3 => ?_) (fun c3 => ?_)
      · refine lv_iconst (v := -1) X.1 X.2.1 zd_W_aspect_22 (by decide) ?_
        exact z_iret X.1 X.2.1 hr hlocks rfl rfl hP hS zd_W_aspect_23
      · refine lv_iload X.1 X.2.1 zd_W_aspect_15 (lv_at hl 5 rfl) ?_
        refine lv_bipush (v := nI 10) X.1 X.2.1 zd_W_aspect_17 (by decide) ?_
        refine lv_icmp_lt (tgt := 24) X.1 X.2.1 zd_W_aspect_19 (by decide) (fun c4 => ?_) (fun c4 => ?_)
        · exact absurd ⟨q, hq, rfl, c3, c4⟩ h
        · refine lv_iconst (v := -1) X.1 X.2.1 zd_W_aspect_22 (by decide) ?_
          exact z_iret X.1 X.2.1 hr hlocks rfl rfl hP hS zd_W_aspect_23

set_option maxHeartbeats 4000000 in
set_option maxRecDepth 100000 in
/-- aspect: a new one -/
theorem k_W_aspect_1 (l : Launch) (K : zK) (G : Nat → Nat) (A : Nat → Prop) (hD : ∀ σ, va_D A (cW K G σ)) (σ : cS) (q : Nat) (al w g y : Int32) (hq : q < 4) (h1 : ¬ y < -1) (h2 : y < nI 10) (ho : cA_opened σ < 8) (hB : cB σ) : zMet l K A zy_W_aspect zws_W_aspect 1 [.ref (G 0), .int (nI q), .int al, .int w, .int g, .int y] (cW K G σ) (cW K G (cOpenA σ q (al &&& nI 7) (w &&& nI 255) (g &&& nI 255) y)) (some (.int (nI (cA_opened σ)))) := by
  have hBo := hB.1
  have hBa := hB.2.1
  refine z_entry (by decide) (Nat.le_of_ble_eq_true rfl) ?_
  intro p e s m below meth c ls X hr hml hlocks hP hl
  have hS : va_S A s.heap s.heap [] := va_S.rf
  have hl : lv_has ls 6 [(0, .ref (G 0)), (1, .int (nI q)), (2, .int al), (3, .int w), (4, .int g), (5, .int y)] := hl
  refine lv_iload_n X.1 X.2.1 zd_W_aspect_0 rfl (lv_at hl 1 rfl) ?_
  refine lv_if_lt (tgt := 22) X.1 X.2.1 zd_W_aspect_1 (by decide) (fun h9 => absurd h9 (nI_pos (by omega))) (fun _ => ?_)
  refine lv_iload_n X.1 X.2.1 zd_W_aspect_4 rfl (lv_at hl 1 rfl) ?_
  refine lv_iconst (v := nI 4) X.1 X.2.1 zd_W_aspect_5 (by decide) ?_
  refine lv_icmp_ge (tgt := 22) X.1 X.2.1 zd_W_aspect_6 (by decide) (fun h9 => absurd h9 (by rw [nI_leI (by omega) (by omega)]; omega)) (fun _ => ?_)
  refine lv_iload X.1 X.2.1 zd_W_aspect_9 (lv_at hl 5 rfl) ?_
  refine lv_iconst (v := -1) X.1 X.2.1 zd_W_aspect_11 (by decide) ?_
  refine lv_icmp_lt (tgt := 22) X.1 X.2.1 zd_W_aspect_12 (by decide) (fun h9 => absurd h9 h1) (fun _ => ?_)
  refine lv_iload X.1 X.2.1 zd_W_aspect_15 (lv_at hl 5 rfl) ?_
  refine lv_bipush (v := nI 10) X.1 X.2.1 zd_W_aspect_17 (by decide) ?_
  refine lv_icmp_lt (tgt := 24) X.1 X.2.1 zd_W_aspect_19 (by decide) (fun _ => ?_) (fun h9 => absurd h2 h9)
  refine lv_aload_n X.1 X.2.1 zd_W_aspect_24 rfl (lv_at hl 0 rfl) ?_
  refine g_cW_aspects X hP zd_W_aspect_25 ?_
  refine lv_iload_n X.1 X.2.1 zd_W_aspect_28 rfl (lv_at hl 1 rfl) ?_
  refine lv_iload_n X.1 X.2.1 zd_W_aspect_29 rfl (lv_at hl 2 rfl) ?_
  refine lv_bipush (v := nI 7) X.1 X.2.1 zd_W_aspect_30 (by decide) ?_
  refine lv_iand X.1 X.2.1 zd_W_aspect_32 ?_
  refine lv_iload_n X.1 X.2.1 zd_W_aspect_33 rfl (lv_at hl 3 rfl) ?_
  refine lv_sipush (v := nI 255) X.1 X.2.1 zd_W_aspect_34 (by decide) ?_
  refine lv_iand X.1 X.2.1 zd_W_aspect_37 ?_
  refine lv_iload X.1 X.2.1 zd_W_aspect_38 (lv_at hl 4 rfl) ?_
  refine lv_sipush (v := nI 255) X.1 X.2.1 zd_W_aspect_40 (by decide) ?_
  refine lv_iand X.1 X.2.1 zd_W_aspect_43 ?_
  refine lv_iload X.1 X.2.1 zd_W_aspect_44 (lv_at hl 5 rfl) ?_
  refine z_callVi (As := [.int (nI q), .int (al &&& (nI 7)), .int (w &&& (nI 255)), .int (g &&& (nI 255)), .int y]) (rest := []) (q0 := 2) (ci := 1) X hml (k_A_open_1 l K G A hD σ q (al &&& (nI 7)) (w &&& (nI 255)) (g &&& (nI 255)) y ho) (zk_W_70 X.2.2.2.1 (z_rm (by omega) (by decide))) rfl rfl rfl hP hS rfl hl.1 rfl (Nat.le_of_ble_eq_true rfl) zd_W_aspect_46 ⟨Nat.zero_le _, Nat.zero_le _⟩ (fun H locs hP hS => ?_)
  exact z_iret X.1 X.2.1 hr hlocks rfl rfl hP hS zd_W_aspect_49

set_option maxHeartbeats 4000000 in
set_option maxRecDepth 100000 in
/-- aspect: full -/
theorem k_W_aspect_0 (l : Launch) (K : zK) (G : Nat → Nat) (A : Nat → Prop) (hD : ∀ σ, va_D A (cW K G σ)) (σ : cS) (q : Nat) (al w g y : Int32) (hq : q < 4) (h1 : ¬ y < -1) (h2 : y < nI 10) (ho : cA_opened σ = 8) (hB : cB σ) : zMet l K A zy_W_aspect zws_W_aspect 1 [.ref (G 0), .int (nI q), .int al, .int w, .int g, .int y] (cW K G σ) (cW K G σ) (some (.int (-1))) := by
  have hBo := hB.1
  have hBa := hB.2.1
  refine z_entry (by decide) (Nat.le_of_ble_eq_true rfl) ?_
  intro p e s m below meth c ls X hr hml hlocks hP hl
  have hS : va_S A s.heap s.heap [] := va_S.rf
  have hl : lv_has ls 6 [(0, .ref (G 0)), (1, .int (nI q)), (2, .int al), (3, .int w), (4, .int g), (5, .int y)] := hl
  refine lv_iload_n X.1 X.2.1 zd_W_aspect_0 rfl (lv_at hl 1 rfl) ?_
  refine lv_if_lt (tgt := 22) X.1 X.2.1 zd_W_aspect_1 (by decide) (fun h9 => absurd h9 (nI_pos (by omega))) (fun _ => ?_)
  refine lv_iload_n X.1 X.2.1 zd_W_aspect_4 rfl (lv_at hl 1 rfl) ?_
  refine lv_iconst (v := nI 4) X.1 X.2.1 zd_W_aspect_5 (by decide) ?_
  refine lv_icmp_ge (tgt := 22) X.1 X.2.1 zd_W_aspect_6 (by decide) (fun h9 => absurd h9 (by rw [nI_leI (by omega) (by omega)]; omega)) (fun _ => ?_)
  refine lv_iload X.1 X.2.1 zd_W_aspect_9 (lv_at hl 5 rfl) ?_
  refine lv_iconst (v := -1) X.1 X.2.1 zd_W_aspect_11 (by decide) ?_
  refine lv_icmp_lt (tgt := 22) X.1 X.2.1 zd_W_aspect_12 (by decide) (fun h9 => absurd h9 h1) (fun _ => ?_)
  refine lv_iload X.1 X.2.1 zd_W_aspect_15 (lv_at hl 5 rfl) ?_
  refine lv_bipush (v := nI 10) X.1 X.2.1 zd_W_aspect_17 (by decide) ?_
  refine lv_icmp_lt (tgt := 24) X.1 X.2.1 zd_W_aspect_19 (by decide) (fun _ => ?_) (fun h9 => absurd h2 h9)
  refine lv_aload_n X.1 X.2.1 zd_W_aspect_24 rfl (lv_at hl 0 rfl) ?_
  refine g_cW_aspects X hP zd_W_aspect_25 ?_
  refine lv_iload_n X.1 X.2.1 zd_W_aspect_28 rfl (lv_at hl 1 rfl) ?_
  refine lv_iload_n X.1 X.2.1 zd_W_aspect_29 rfl (lv_at hl 2 rfl) ?_
  refine lv_bipush (v := nI 7) X.1 X.2.1 zd_W_aspect_30 (by decide) ?_
  refine lv_iand X.1 X.2.1 zd_W_aspect_32 ?_
  refine lv_iload_n X.1 X.2.1 zd_W_aspect_33 rfl (lv_at hl 3 rfl) ?_
  refine lv_sipush (v := nI 255) X.1 X.2.1 zd_W_aspect_34 (by decide) ?_
  refine lv_iand X.1 X.2.1 zd_W_aspect_37 ?_
  refine lv_iload X.1 X.2.1 zd_W_aspect_38 (lv_at hl 4 rfl) ?_
  refine lv_sipush (v := nI 255) X.1 X.2.1 zd_W_aspect_40 (by decide) ?_
  refine lv_iand X.1 X.2.1 zd_W_aspect_43 ?_
  refine lv_iload X.1 X.2.1 zd_W_aspect_44 (lv_at hl 5 rfl) ?_
  refine z_callVi (As := [.int (nI q), .int (al &&& (nI 7)), .int (w &&& (nI 255)), .int (g &&& (nI 255)), .int y]) (rest := []) (q0 := 2) (ci := 1) X hml (k_A_open_0 l K G A hD σ q (al &&& (nI 7)) (w &&& (nI 255)) (g &&& (nI 255)) y ho) (zk_W_70 X.2.2.2.1 (z_rm (by omega) (by decide))) rfl rfl rfl hP hS rfl hl.1 rfl (Nat.le_of_ble_eq_true rfl) zd_W_aspect_46 ⟨Nat.zero_le _, Nat.zero_le _⟩ (fun H locs hP hS => ?_)
  exact z_iret X.1 X.2.1 hr hlocks rfl rfl hP hS zd_W_aspect_49

set_option maxHeartbeats 4000000 in
set_option maxRecDepth 100000 in
/-- need: refused -/
theorem k_W_need_bad (l : Launch) (K : zK) (G : Nat → Nat) (A : Nat → Prop) (hD : ∀ σ, va_D A (cW K G σ)) (σ : cS) (x y : Int32) (h : ¬ ∃ n o, n < cA_opened σ ∧ x = nI n ∧ o < cA_opened σ ∧ y = nI o ∧ cDirect σ n o (cA_needCounts σ n) = false ∧ cA_needCounts σ n < 3) (hB : cB σ) : zMet l K A zy_W_need zws_W_need 2 [.ref (G 0), .int x, .int y] (cW K G σ) (cW K G σ) (some (.int (-1))) := by
  have hBo := hB.1
  have hBa := hB.2.1
  refine z_entry (by decide) (Nat.le_of_ble_eq_true rfl) ?_
  intro p e s m below meth c ls X hr hml hlocks hP hl
  have hS : va_S A s.heap s.heap [] := va_S.rf
  have hl : lv_has ls 3 [(0, .ref (G 0)), (1, .int x), (2, .int y)] := hl
  refine lv_aload_n X.1 X.2.1 zd_W_need_0 rfl (lv_at hl 0 rfl) ?_
  refine g_cW_aspects X hP zd_W_need_1 ?_
  refine lv_iload_n X.1 X.2.1 zd_W_need_4 rfl (lv_at hl 1 rfl) ?_
  refine z_callVi (As := [.int x]) (rest := []) (q0 := 2) (ci := 1) X hml (k_A_has l K G A hD σ x) (zk_W_73 X.2.2.2.1 (z_rm (by omega) (by decide))) rfl rfl rfl hP hS rfl hl.1 rfl (Nat.le_of_ble_eq_true rfl) zd_W_need_5 ⟨Nat.zero_le _, Nat.zero_le _⟩ (fun H locs hP hS => ?_)
  refine lv_if_eq (tgt := 22) X.1 X.2.1 zd_W_need_8 (by decide) (fun c1 => ?_) (fun c1 => ?_)
  · rw [z_eq0 (cHas_lt _ _)] at c1
    refine lv_iconst (v := -1) X.1 X.2.1 zd_W_need_22 (by decide) ?_
    exact z_iret X.1 X.2.1 hr hlocks rfl rfl hP hS zd_W_need_23
  · rw [z_eq0 (cHas_lt _ _)] at c1
    obtain ⟨n, hn, rfl⟩ := cHas_ex (by omega) c1
    have hc3 := hB.2.2.2.2.2.2.1 n
    refine lv_aload_n X.1 X.2.1 zd_W_need_11 rfl (lv_at hl 0 rfl) ?_
    refine g_cW_aspects X hP zd_W_need_12 ?_
    refine lv_iload_n X.1 X.2.1 zd_W_need_15 rfl (lv_at hl 2 rfl) ?_
    refine z_callVi (As := [.int y]) (rest := []) (q0 := 2) (ci := 1) X hml (k_A_has l K G A hD σ y) (zk_W_73 X.2.2.2.1 (z_rm (by omega) (by decide))) rfl rfl rfl hP hS rfl hl.1 rfl (Nat.le_of_ble_eq_true rfl) zd_W_need_16 ⟨Nat.zero_le _, Nat.zero_le _⟩ (fun H locs hP hS => ?_)
    refine lv_if_ne (tgt := 24) X.1 X.2.1 zd_W_need_19 (by decide) (fun c2 => ?_) (fun c2 => ?_)
    · rw [z_eq0 (cHas_lt _ _)] at c2
      obtain ⟨o, ho, rfl⟩ := cHas_ex (by omega) c2
      refine lv_aload_n X.1 X.2.1 zd_W_need_24 rfl (lv_at hl 0 rfl) ?_
      refine g_cW_aspects X hP zd_W_need_25 ?_
      refine lv_iload_n X.1 X.2.1 zd_W_need_28 rfl (lv_at hl 1 rfl) ?_
      refine lv_iload_n X.1 X.2.1 zd_W_need_29 rfl (lv_at hl 2 rfl) ?_
      refine z_callVi (As := [.int (nI n), .int (nI o)]) (rest := []) (q0 := 2) (ci := 1) X hml (k_A_needsDirectly l K G A hD σ n o (by omega) (by omega) (hB.2.2.2.2.2.2.1 _) hB.2.2.2.2.2.1) (zk_W_74 X.2.2.2.1 (z_rm (by omega) (by decide))) rfl rfl rfl hP hS rfl hl.1 rfl (Nat.le_of_ble_eq_true rfl) zd_W_need_30 ⟨Nat.zero_le _, Nat.zero_le _⟩ (fun H locs hP hS => ?_)
      refine lv_if_ne (tgt := 48) X.1 X.2.1 zd_W_need_33 (by decide) (fun c3 => ?_) (fun c3 => ?_)
      · rw [z_eq0 (b01_lt _)] at c3
        refine lv_iconst (v := -1) X.1 X.2.1 zd_W_need_48 (by decide) ?_
        exact z_iret X.1 X.2.1 hr hlocks rfl rfl hP hS zd_W_need_49
      · rw [z_eq0 (b01_lt _)] at c3
        refine lv_aload_n X.1 X.2.1 zd_W_need_36 rfl (lv_at hl 0 rfl) ?_
        refine g_cW_aspects X hP zd_W_need_37 ?_
        refine lv_iload_n X.1 X.2.1 zd_W_need_40 rfl (lv_at hl 1 rfl) ?_
        refine z_callVi (As := [.int (nI n)]) (rest := []) (q0 := 2) (ci := 1) X hml (k_A_needCount l K G A hD σ n (by omega)) (zk_W_78 X.2.2.2.1 (z_rm (by omega) (by decide))) rfl rfl rfl hP hS rfl hl.1 rfl (Nat.le_of_ble_eq_true rfl) zd_W_need_41 ⟨Nat.zero_le _, Nat.zero_le _⟩ (fun H locs hP hS => ?_)
        refine lv_iconst (v := nI 3) X.1 X.2.1 zd_W_need_44 (by decide) ?_
        refine lv_icmp_lt (tgt := 50) X.1 X.2.1 zd_W_need_45 (by decide) (fun c4 => ?_) (fun c4 => ?_)
        · rw [nI_ltI (by omega) (by omega)] at c4
          exact absurd ⟨n, o, hn, rfl, ho, rfl, (by simpa [b01] using c3), (by omega)⟩ h
        · rw [nI_ltI (by omega) (by omega)] at c4
          refine lv_iconst (v := -1) X.1 X.2.1 zd_W_need_48 (by decide) ?_
          exact z_iret X.1 X.2.1 hr hlocks rfl rfl hP hS zd_W_need_49
    · rw [z_eq0 (cHas_lt _ _)] at c2
      refine lv_iconst (v := -1) X.1 X.2.1 zd_W_need_22 (by decide) ?_
      exact z_iret X.1 X.2.1 hr hlocks rfl rfl hP hS zd_W_need_23

set_option maxHeartbeats 4000000 in
set_option maxRecDepth 100000 in
/-- need: a ring -/
theorem k_W_need_r (l : Launch) (K : zK) (G : Nat → Nat) (A : Nat → Prop) (hD : ∀ σ, va_D A (cW K G σ)) (σ : cS) (n o : Nat) (hn : n < cA_opened σ) (ho : o < cA_opened σ) (hd : cDirect σ n o (cA_needCounts σ n) = false) (h3 : cA_needCounts σ n < 3) (hrr : ¬ cLead (cA_reached σ o) n = 0) (hB : cB σ) : zMet l K A zy_W_need zws_W_need 2 [.ref (G 0), .int (nI n), .int (nI o)] (cW K G σ) (cW K G σ) (some (.int (-2))) := by
  have hBo := hB.1
  have hBa := hB.2.1
  refine z_entry (by decide) (Nat.le_of_ble_eq_true rfl) ?_
  intro p e s m below meth c ls X hr hml hlocks hP hl
  have hS : va_S A s.heap s.heap [] := va_S.rf
  have hl : lv_has ls 3 [(0, .ref (G 0)), (1, .int (nI n)), (2, .int (nI o))] := hl
  refine lv_aload_n X.1 X.2.1 zd_W_need_0 rfl (lv_at hl 0 rfl) ?_
  refine g_cW_aspects X hP zd_W_need_1 ?_
  refine lv_iload_n X.1 X.2.1 zd_W_need_4 rfl (lv_at hl 1 rfl) ?_
  refine z_callVi (As := [.int (nI n)]) (rest := []) (q0 := 2) (ci := 1) X hml (k_A_has l K G A hD σ (nI n)) (zk_W_73 X.2.2.2.1 (z_rm (by omega) (by decide))) rfl rfl rfl hP hS rfl hl.1 rfl (Nat.le_of_ble_eq_true rfl) zd_W_need_5 ⟨Nat.zero_le _, Nat.zero_le _⟩ (fun H locs hP hS => ?_)
  refine lv_if_eq (tgt := 22) X.1 X.2.1 zd_W_need_8 (by decide) (fun h9 => absurd h9 (by rw [cHas_y hn (by omega)]; decide)) (fun _ => ?_)
  refine lv_aload_n X.1 X.2.1 zd_W_need_11 rfl (lv_at hl 0 rfl) ?_
  refine g_cW_aspects X hP zd_W_need_12 ?_
  refine lv_iload_n X.1 X.2.1 zd_W_need_15 rfl (lv_at hl 2 rfl) ?_
  refine z_callVi (As := [.int (nI o)]) (rest := []) (q0 := 2) (ci := 1) X hml (k_A_has l K G A hD σ (nI o)) (zk_W_73 X.2.2.2.1 (z_rm (by omega) (by decide))) rfl rfl rfl hP hS rfl hl.1 rfl (Nat.le_of_ble_eq_true rfl) zd_W_need_16 ⟨Nat.zero_le _, Nat.zero_le _⟩ (fun H locs hP hS => ?_)
  refine lv_if_ne (tgt := 24) X.1 X.2.1 zd_W_need_19 (by decide) (fun _ => ?_) (fun h9 => absurd h9 (by rw [cHas_y ho (by omega)]; decide))
  refine lv_aload_n X.1 X.2.1 zd_W_need_24 rfl (lv_at hl 0 rfl) ?_
  refine g_cW_aspects X hP zd_W_need_25 ?_
  refine lv_iload_n X.1 X.2.1 zd_W_need_28 rfl (lv_at hl 1 rfl) ?_
  refine lv_iload_n X.1 X.2.1 zd_W_need_29 rfl (lv_at hl 2 rfl) ?_
  refine z_callVi (As := [.int (nI n), .int (nI o)]) (rest := []) (q0 := 2) (ci := 1) X hml (k_A_needsDirectly l K G A hD σ n o (by omega) (by omega) (hB.2.2.2.2.2.2.1 _) hB.2.2.2.2.2.1) (zk_W_74 X.2.2.2.1 (z_rm (by omega) (by decide))) rfl rfl rfl hP hS rfl hl.1 rfl (Nat.le_of_ble_eq_true rfl) zd_W_need_30 ⟨Nat.zero_le _, Nat.zero_le _⟩ (fun H locs hP hS => ?_)
  refine lv_if_ne (tgt := 48) X.1 X.2.1 zd_W_need_33 (by decide) (fun h9 => absurd (by rw [hd]; decide) h9) (fun _ => ?_)
  refine lv_aload_n X.1 X.2.1 zd_W_need_36 rfl (lv_at hl 0 rfl) ?_
  refine g_cW_aspects X hP zd_W_need_37 ?_
  refine lv_iload_n X.1 X.2.1 zd_W_need_40 rfl (lv_at hl 1 rfl) ?_
  refine z_callVi (As := [.int (nI n)]) (rest := []) (q0 := 2) (ci := 1) X hml (k_A_needCount l K G A hD σ n (by omega)) (zk_W_78 X.2.2.2.1 (z_rm (by omega) (by decide))) rfl rfl rfl hP hS rfl hl.1 rfl (Nat.le_of_ble_eq_true rfl) zd_W_need_41 ⟨Nat.zero_le _, Nat.zero_le _⟩ (fun H locs hP hS => ?_)
  refine lv_iconst (v := nI 3) X.1 X.2.1 zd_W_need_44 (by decide) ?_
  refine lv_icmp_lt (tgt := 50) X.1 X.2.1 zd_W_need_45 (by decide) (fun _ => ?_) (fun h9 => absurd (by rw [nI_ltI (by omega) (by omega)]; omega) h9)
  refine lv_aload_n X.1 X.2.1 zd_W_need_50 rfl (lv_at hl 0 rfl) ?_
  refine g_cW_aspects X hP zd_W_need_51 ?_
  refine lv_iload_n X.1 X.2.1 zd_W_need_54 rfl (lv_at hl 2 rfl) ?_
  refine lv_iload_n X.1 X.2.1 zd_W_need_55 rfl (lv_at hl 1 rfl) ?_
  refine z_callVi (As := [.int (nI o), .int (nI n)]) (rest := []) (q0 := 2) (ci := 1) X hml (k_A_leadsTo l K G A hD σ o n (by omega)) (zk_W_81 X.2.2.2.1 (z_rm (by omega) (by decide))) rfl rfl rfl hP hS rfl hl.1 rfl (Nat.le_of_ble_eq_true rfl) zd_W_need_56 ⟨Nat.zero_le _, Nat.zero_le _⟩ (fun H locs hP hS => ?_)
  refine lv_if_eq (tgt := 65) X.1 X.2.1 zd_W_need_59 (by decide) (fun h9 => absurd h9 (by rw [z_eq0 (cLead_lt _ _)]; exact hrr)) (fun _ => ?_)
  refine lv_bipush (v := -2) X.1 X.2.1 zd_W_need_62 (by decide) ?_
  exact z_iret X.1 X.2.1 hr hlocks rfl rfl hP hS zd_W_need_64

set_option maxHeartbeats 4000000 in
set_option maxRecDepth 100000 in
/-- need -/
theorem k_W_need_1 (l : Launch) (K : zK) (G : Nat → Nat) (A : Nat → Prop) (hD : ∀ σ, va_D A (cW K G σ)) (σ : cS) (n o : Nat) (hn : n < cA_opened σ) (ho : o < cA_opened σ) (hd : cDirect σ n o (cA_needCounts σ n) = false) (h3 : cA_needCounts σ n < 3) (hr0 : cLead (cA_reached σ o) n = 0) (hB2 : cB (cAppendNeed σ n o)) (hB : cB σ) : zMet l K A zy_W_need zws_W_need 3 [.ref (G 0), .int (nI n), .int (nI o)] (cW K G σ) (cW K G (cFA (cAppendNeed σ n o) n (cA_opened (cAppendNeed σ n o)))) (some (.int (nI 1))) := by
  have hBo := hB.1
  have hBa := hB.2.1
  refine z_entry (by decide) (Nat.le_of_ble_eq_true rfl) ?_
  intro p e s m below meth c ls X hr hml hlocks hP hl
  have hS : va_S A s.heap s.heap [] := va_S.rf
  have hl : lv_has ls 3 [(0, .ref (G 0)), (1, .int (nI n)), (2, .int (nI o))] := hl
  refine lv_aload_n X.1 X.2.1 zd_W_need_0 rfl (lv_at hl 0 rfl) ?_
  refine g_cW_aspects X hP zd_W_need_1 ?_
  refine lv_iload_n X.1 X.2.1 zd_W_need_4 rfl (lv_at hl 1 rfl) ?_
  refine z_callVi (As := [.int (nI n)]) (rest := []) (q0 := 2) (ci := 1) X hml (k_A_has l K G A hD σ (nI n)) (zk_W_73 X.2.2.2.1 (z_rm (by omega) (by decide))) rfl rfl rfl hP hS rfl hl.1 rfl (Nat.le_of_ble_eq_true rfl) zd_W_need_5 ⟨Nat.zero_le _, Nat.zero_le _⟩ (fun H locs hP hS => ?_)
  refine lv_if_eq (tgt := 22) X.1 X.2.1 zd_W_need_8 (by decide) (fun h9 => absurd h9 (by rw [cHas_y hn (by omega)]; decide)) (fun _ => ?_)
  refine lv_aload_n X.1 X.2.1 zd_W_need_11 rfl (lv_at hl 0 rfl) ?_
  refine g_cW_aspects X hP zd_W_need_12 ?_
  refine lv_iload_n X.1 X.2.1 zd_W_need_15 rfl (lv_at hl 2 rfl) ?_
  refine z_callVi (As := [.int (nI o)]) (rest := []) (q0 := 2) (ci := 1) X hml (k_A_has l K G A hD σ (nI o)) (zk_W_73 X.2.2.2.1 (z_rm (by omega) (by decide))) rfl rfl rfl hP hS rfl hl.1 rfl (Nat.le_of_ble_eq_true rfl) zd_W_need_16 ⟨Nat.zero_le _, Nat.zero_le _⟩ (fun H locs hP hS => ?_)
  refine lv_if_ne (tgt := 24) X.1 X.2.1 zd_W_need_19 (by decide) (fun _ => ?_) (fun h9 => absurd h9 (by rw [cHas_y ho (by omega)]; decide))
  refine lv_aload_n X.1 X.2.1 zd_W_need_24 rfl (lv_at hl 0 rfl) ?_
  refine g_cW_aspects X hP zd_W_need_25 ?_
  refine lv_iload_n X.1 X.2.1 zd_W_need_28 rfl (lv_at hl 1 rfl) ?_
  refine lv_iload_n X.1 X.2.1 zd_W_need_29 rfl (lv_at hl 2 rfl) ?_
  refine z_callVi (As := [.int (nI n), .int (nI o)]) (rest := []) (q0 := 2) (ci := 1) X hml (k_A_needsDirectly l K G A hD σ n o (by omega) (by omega) (hB.2.2.2.2.2.2.1 _) hB.2.2.2.2.2.1) (zk_W_74 X.2.2.2.1 (z_rm (by omega) (by decide))) rfl rfl rfl hP hS rfl hl.1 rfl (Nat.le_of_ble_eq_true rfl) zd_W_need_30 ⟨Nat.zero_le _, Nat.zero_le _⟩ (fun H locs hP hS => ?_)
  refine lv_if_ne (tgt := 48) X.1 X.2.1 zd_W_need_33 (by decide) (fun h9 => absurd (by rw [hd]; decide) h9) (fun _ => ?_)
  refine lv_aload_n X.1 X.2.1 zd_W_need_36 rfl (lv_at hl 0 rfl) ?_
  refine g_cW_aspects X hP zd_W_need_37 ?_
  refine lv_iload_n X.1 X.2.1 zd_W_need_40 rfl (lv_at hl 1 rfl) ?_
  refine z_callVi (As := [.int (nI n)]) (rest := []) (q0 := 2) (ci := 1) X hml (k_A_needCount l K G A hD σ n (by omega)) (zk_W_78 X.2.2.2.1 (z_rm (by omega) (by decide))) rfl rfl rfl hP hS rfl hl.1 rfl (Nat.le_of_ble_eq_true rfl) zd_W_need_41 ⟨Nat.zero_le _, Nat.zero_le _⟩ (fun H locs hP hS => ?_)
  refine lv_iconst (v := nI 3) X.1 X.2.1 zd_W_need_44 (by decide) ?_
  refine lv_icmp_lt (tgt := 50) X.1 X.2.1 zd_W_need_45 (by decide) (fun _ => ?_) (fun h9 => absurd (by rw [nI_ltI (by omega) (by omega)]; omega) h9)
  refine lv_aload_n X.1 X.2.1 zd_W_need_50 rfl (lv_at hl 0 rfl) ?_
  refine g_cW_aspects X hP zd_W_need_51 ?_
  refine lv_iload_n X.1 X.2.1 zd_W_need_54 rfl (lv_at hl 2 rfl) ?_
  refine lv_iload_n X.1 X.2.1 zd_W_need_55 rfl (lv_at hl 1 rfl) ?_
  refine z_callVi (As := [.int (nI o), .int (nI n)]) (rest := []) (q0 := 2) (ci := 1) X hml (k_A_leadsTo l K G A hD σ o n (by omega)) (zk_W_81 X.2.2.2.1 (z_rm (by omega) (by decide))) rfl rfl rfl hP hS rfl hl.1 rfl (Nat.le_of_ble_eq_true rfl) zd_W_need_56 ⟨Nat.zero_le _, Nat.zero_le _⟩ (fun H locs hP hS => ?_)
  refine lv_if_eq (tgt := 65) X.1 X.2.1 zd_W_need_59 (by decide) (fun _ => ?_) (fun h9 => absurd (by rw [hr0]; rfl) h9)
  refine lv_aload_n X.1 X.2.1 zd_W_need_65 rfl (lv_at hl 0 rfl) ?_
  refine g_cW_aspects X hP zd_W_need_66 ?_
  refine lv_iload_n X.1 X.2.1 zd_W_need_69 rfl (lv_at hl 1 rfl) ?_
  refine lv_iload_n X.1 X.2.1 zd_W_need_70 rfl (lv_at hl 2 rfl) ?_
  refine z_callVv (As := [.int (nI n), .int (nI o)]) (rest := []) (q0 := 2) (ci := 1) X hml (k_A_appendNeed l K G A hD σ n o (by omega) (by omega) hB.2.1 h3) (zk_W_84 X.2.2.2.1 (z_rm (by omega) (by decide))) rfl rfl rfl hP hS rfl hl.1 rfl (Nat.le_of_ble_eq_true rfl) zd_W_need_71 ⟨Nat.zero_le _, Nat.zero_le _⟩ (fun H locs hP hS => ?_)
  refine lv_aload_n X.1 X.2.1 zd_W_need_74 rfl (lv_at hl 0 rfl) ?_
  refine lv_iload_n X.1 X.2.1 zd_W_need_75 rfl (lv_at hl 1 rfl) ?_
  refine z_callVv (As := [.int (nI n)]) (rest := []) (q0 := 0) (ci := 3) X hml (k_W_forgetAllOf l K G A hD (cAppendNeed σ n o) n hB2) (zk_W_88 X.2.2.2.1 (z_rm (by omega) (by decide))) rfl rfl rfl hP hS rfl hl.1 rfl (Nat.le_of_ble_eq_true rfl) zd_W_need_76 ⟨Nat.zero_le _, Nat.zero_le _⟩ (fun H locs hP hS => ?_)
  refine lv_iconst (v := nI 1) X.1 X.2.1 zd_W_need_79 (by decide) ?_
  exact z_iret X.1 X.2.1 hr hlocks rfl rfl hP hS zd_W_need_80

set_option maxHeartbeats 4000000 in
set_option maxRecDepth 100000 in
/-- apply: none such -/
theorem k_W_apply_n (l : Launch) (K : zK) (G : Nat → Nat) (A : Nat → Prop) (hD : ∀ σ, va_D A (cW K G σ)) (σ : cS) (x y z : Int32) (h : ¬ ∃ t a k, t < cT_opened σ ∧ x = nI t ∧ a < cA_opened σ ∧ y = nI a ∧ k < 16 ∧ z = nI k) (hB : cB σ) : zMet l K A zy_W_apply zws_W_apply 2 [.ref (G 0), .int x, .int y, .int z] (cW K G σ) (cW K G σ) (some (.int (-1))) := by
  have hBo := hB.1
  have hBa := hB.2.1
  refine z_entry (by decide) (Nat.le_of_ble_eq_true rfl) ?_
  intro p e s m below meth c ls X hr hml hlocks hP hl
  have hS : va_S A s.heap s.heap [] := va_S.rf
  have hl : lv_has ls 4 [(0, .ref (G 0)), (1, .int x), (2, .int y), (3, .int z)] := hl
  refine lv_aload_n X.1 X.2.1 zd_W_apply_0 rfl (lv_at hl 0 rfl) ?_
  refine lv_iload_n X.1 X.2.1 zd_W_apply_1 rfl (lv_at hl 1 rfl) ?_
  refine lv_iload_n X.1 X.2.1 zd_W_apply_2 rfl (lv_at hl 2 rfl) ?_
  refine lv_iload_n X.1 X.2.1 zd_W_apply_3 rfl (lv_at hl 3 rfl) ?_
  refine z_callVi (As := [.int x, .int y, .int z]) (rest := []) (q0 := 0) (ci := 3) X hml (k_W_isAsked l K G A hD σ x y z) (zk_W_91 X.2.2.2.1 (z_rm (by omega) (by decide))) rfl rfl rfl hP hS rfl hl.1 rfl (Nat.le_of_ble_eq_true rfl) zd_W_apply_4 ⟨Nat.zero_le _, Nat.zero_le _⟩ (fun H locs hP hS => ?_)
  refine lv_if_ne (tgt := 12) X.1 X.2.1 zd_W_apply_7 (by decide) (fun h9 => absurd (by rw [cAsked_n hB.1 hB.2.1 h]; decide) h9) (fun _ => ?_)
  refine lv_iconst (v := -1) X.1 X.2.1 zd_W_apply_10 (by decide) ?_
  exact z_iret X.1 X.2.1 hr hlocks rfl rfl hP hS zd_W_apply_11

set_option maxHeartbeats 4000000 in
set_option maxRecDepth 100000 in
/-- apply -/
theorem k_W_apply_1 (l : Launch) (K : zK) (G : Nat → Nat) (A : Nat → Prop) (hD : ∀ σ, va_D A (cW K G σ)) (σ : cS) (t a k : Nat) (ht : t < cT_opened σ) (ha : a < cA_opened σ) (hk : k < 16) (hB : cB σ) : zMet l K A zy_W_apply zws_W_apply 65 [.ref (G 0), .int (nI t), .int (nI a), .int (nI k)] (cW K G σ) (cW K G (σ.1, σ.2.1, (cDo σ.1 σ.2.1 29 σ.2.2 (cT_ends σ t) a k).2)) (some (.int ((cDo σ.1 σ.2.1 29 σ.2.2 (cT_ends σ t) a k).1))) := by
  have hBo := hB.1
  have hBa := hB.2.1
  refine z_entry (by decide) (Nat.le_of_ble_eq_true rfl) ?_
  intro p e s m below meth c ls X hr hml hlocks hP hl
  have hS : va_S A s.heap s.heap [] := va_S.rf
  have hl : lv_has ls 4 [(0, .ref (G 0)), (1, .int (nI t)), (2, .int (nI a)), (3, .int (nI k))] := hl
  refine lv_aload_n X.1 X.2.1 zd_W_apply_0 rfl (lv_at hl 0 rfl) ?_
  refine lv_iload_n X.1 X.2.1 zd_W_apply_1 rfl (lv_at hl 1 rfl) ?_
  refine lv_iload_n X.1 X.2.1 zd_W_apply_2 rfl (lv_at hl 2 rfl) ?_
  refine lv_iload_n X.1 X.2.1 zd_W_apply_3 rfl (lv_at hl 3 rfl) ?_
  refine z_callVi (As := [.int (nI t), .int (nI a), .int (nI k)]) (rest := []) (q0 := 0) (ci := 3) X hml (k_W_isAsked l K G A hD σ (nI t) (nI a) (nI k)) (zk_W_91 X.2.2.2.1 (z_rm (by omega) (by decide))) rfl rfl rfl hP hS rfl hl.1 rfl (Nat.le_of_ble_eq_true rfl) zd_W_apply_4 ⟨Nat.zero_le _, Nat.zero_le _⟩ (fun H locs hP hS => ?_)
  refine lv_if_ne (tgt := 12) X.1 X.2.1 zd_W_apply_7 (by decide) (fun _ => ?_) (fun h9 => absurd h9 (by rw [cAsked_y ht hB.1 ha hB.2.1 hk]; decide))
  refine lv_aload_n X.1 X.2.1 zd_W_apply_12 rfl (lv_at hl 0 rfl) ?_
  refine lv_aload_n X.1 X.2.1 zd_W_apply_13 rfl (lv_at hl 0 rfl) ?_
  refine g_cW_targets X hP zd_W_apply_14 ?_
  refine lv_iload_n X.1 X.2.1 zd_W_apply_17 rfl (lv_at hl 1 rfl) ?_
  refine z_callVi (As := [.int (nI t)]) (rest := [.ref (G 0)]) (q0 := 1) (ci := 0) X hml (k_T_end l K G A hD σ t (by omega)) (zk_W_52 X.2.2.2.1 (z_rm (by omega) (by decide))) rfl rfl rfl hP hS rfl hl.1 rfl (Nat.le_of_ble_eq_true rfl) zd_W_apply_18 ⟨Nat.zero_le _, Nat.zero_le _⟩ (fun H locs hP hS => ?_)
  refine lv_iload_n X.1 X.2.1 zd_W_apply_21 rfl (lv_at hl 2 rfl) ?_
  refine lv_iload_n X.1 X.2.1 zd_W_apply_22 rfl (lv_at hl 3 rfl) ?_
  refine lv_iconst (v := nI 0) X.1 X.2.1 zd_W_apply_23 (by decide) ?_
  refine z_callVi (As := [.int (nI (cT_ends σ t)), .int (nI a), .int (nI k), .int (nI 0)]) (rest := []) (q0 := 0) (ci := 3) X hml (k_W_doing l K G A hD σ.1 σ.2.1 (fun μ => hB) 29 0 rfl σ.2.2 (cT_ends σ t) a k (hB.2.2.1 _) (by omega) (by omega)) (zk_W_94 X.2.2.2.1 (z_rm (by omega) (by decide))) rfl rfl rfl hP hS rfl hl.1 rfl (Nat.le_of_ble_eq_true rfl) zd_W_apply_24 ⟨Nat.zero_le _, Nat.zero_le _⟩ (fun H locs hP hS => ?_)
  exact z_iret X.1 X.2.1 hr hlocks rfl rfl hP hS zd_W_apply_27

set_option maxHeartbeats 4000000 in
set_option maxRecDepth 100000 in
/-- state: none such -/
theorem k_W_state_n (l : Launch) (K : zK) (G : Nat → Nat) (A : Nat → Prop) (hD : ∀ σ, va_D A (cW K G σ)) (σ : cS) (x y z : Int32) (h : ¬ ∃ t a k, t < cT_opened σ ∧ x = nI t ∧ a < cA_opened σ ∧ y = nI a ∧ k < 16 ∧ z = nI k) (hB : cB σ) : zMet l K A zy_W_state zws_W_state 2 [.ref (G 0), .int x, .int y, .int z] (cW K G σ) (cW K G σ) (some (.int (-1))) := by
  have hBo := hB.1
  have hBa := hB.2.1
  refine z_entry (by decide) (Nat.le_of_ble_eq_true rfl) ?_
  intro p e s m below meth c ls X hr hml hlocks hP hl
  have hS : va_S A s.heap s.heap [] := va_S.rf
  have hl : lv_has ls 4 [(0, .ref (G 0)), (1, .int x), (2, .int y), (3, .int z)] := hl
  refine lv_aload_n X.1 X.2.1 zd_W_state_0 rfl (lv_at hl 0 rfl) ?_
  refine lv_iload_n X.1 X.2.1 zd_W_state_1 rfl (lv_at hl 1 rfl) ?_
  refine lv_iload_n X.1 X.2.1 zd_W_state_2 rfl (lv_at hl 2 rfl) ?_
  refine lv_iload_n X.1 X.2.1 zd_W_state_3 rfl (lv_at hl 3 rfl) ?_
  refine z_callVi (As := [.int x, .int y, .int z]) (rest := []) (q0 := 0) (ci := 3) X hml (k_W_isAsked l K G A hD σ x y z) (zk_W_91 X.2.2.2.1 (z_rm (by omega) (by decide))) rfl rfl rfl hP hS rfl hl.1 rfl (Nat.le_of_ble_eq_true rfl) zd_W_state_4 ⟨Nat.zero_le _, Nat.zero_le _⟩ (fun H locs hP hS => ?_)
  refine lv_if_ne (tgt := 12) X.1 X.2.1 zd_W_state_7 (by decide) (fun h9 => absurd (by rw [cAsked_n hB.1 hB.2.1 h]; decide) h9) (fun _ => ?_)
  refine lv_iconst (v := -1) X.1 X.2.1 zd_W_state_10 (by decide) ?_
  exact z_iret X.1 X.2.1 hr hlocks rfl rfl hP hS zd_W_state_11

set_option maxHeartbeats 4000000 in
set_option maxRecDepth 100000 in
/-- state -/
theorem k_W_state_1 (l : Launch) (K : zK) (G : Nat → Nat) (A : Nat → Prop) (hD : ∀ σ, va_D A (cW K G σ)) (σ : cS) (t a k : Nat) (ht : t < cT_opened σ) (ha : a < cA_opened σ) (hk : k < 16) (hB : cB σ) : zMet l K A zy_W_state zws_W_state 2 [.ref (G 0), .int (nI t), .int (nI a), .int (nI k)] (cW K G σ) (cW K G σ) (some (.int (cKnown σ (cT_ends σ t) a k))) := by
  have hBo := hB.1
  have hBa := hB.2.1
  refine z_entry (by decide) (Nat.le_of_ble_eq_true rfl) ?_
  intro p e s m below meth c ls X hr hml hlocks hP hl
  have hS : va_S A s.heap s.heap [] := va_S.rf
  have hl : lv_has ls 4 [(0, .ref (G 0)), (1, .int (nI t)), (2, .int (nI a)), (3, .int (nI k))] := hl
  refine lv_aload_n X.1 X.2.1 zd_W_state_0 rfl (lv_at hl 0 rfl) ?_
  refine lv_iload_n X.1 X.2.1 zd_W_state_1 rfl (lv_at hl 1 rfl) ?_
  refine lv_iload_n X.1 X.2.1 zd_W_state_2 rfl (lv_at hl 2 rfl) ?_
  refine lv_iload_n X.1 X.2.1 zd_W_state_3 rfl (lv_at hl 3 rfl) ?_
  refine z_callVi (As := [.int (nI t), .int (nI a), .int (nI k)]) (rest := []) (q0 := 0) (ci := 3) X hml (k_W_isAsked l K G A hD σ (nI t) (nI a) (nI k)) (zk_W_91 X.2.2.2.1 (z_rm (by omega) (by decide))) rfl rfl rfl hP hS rfl hl.1 rfl (Nat.le_of_ble_eq_true rfl) zd_W_state_4 ⟨Nat.zero_le _, Nat.zero_le _⟩ (fun H locs hP hS => ?_)
  refine lv_if_ne (tgt := 12) X.1 X.2.1 zd_W_state_7 (by decide) (fun _ => ?_) (fun h9 => absurd h9 (by rw [cAsked_y ht hB.1 ha hB.2.1 hk]; decide))
  refine lv_aload_n X.1 X.2.1 zd_W_state_12 rfl (lv_at hl 0 rfl) ?_
  refine g_cW_memory X hP zd_W_state_13 ?_
  refine lv_aload_n X.1 X.2.1 zd_W_state_16 rfl (lv_at hl 0 rfl) ?_
  refine g_cW_targets X hP zd_W_state_17 ?_
  refine lv_iload_n X.1 X.2.1 zd_W_state_20 rfl (lv_at hl 1 rfl) ?_
  refine z_callVi (As := [.int (nI t)]) (rest := [.ref (G 3)]) (q0 := 1) (ci := 0) X hml (k_T_end l K G A hD σ t (by omega)) (zk_W_52 X.2.2.2.1 (z_rm (by omega) (by decide))) rfl rfl rfl hP hS rfl hl.1 rfl (Nat.le_of_ble_eq_true rfl) zd_W_state_21 ⟨Nat.zero_le _, Nat.zero_le _⟩ (fun H locs hP hS => ?_)
  refine lv_iload_n X.1 X.2.1 zd_W_state_24 rfl (lv_at hl 2 rfl) ?_
  refine lv_iload_n X.1 X.2.1 zd_W_state_25 rfl (lv_at hl 3 rfl) ?_
  refine z_callVi (As := [.int (nI (cT_ends σ t)), .int (nI a), .int (nI k)]) (rest := []) (q0 := 3) (ci := 2) X hml (k_M_known l K G A hD σ (cT_ends σ t) a k (hB.2.2.1 _) (by omega) (by omega)) (zk_W_98 X.2.2.2.1 (z_rm (by omega) (by decide))) rfl rfl rfl hP hS rfl hl.1 rfl (Nat.le_of_ble_eq_true rfl) zd_W_state_26 ⟨Nat.zero_le _, Nat.zero_le _⟩ (fun H locs hP hS => ?_)
  exact z_iret X.1 X.2.1 hr hlocks rfl rfl hP hS zd_W_state_29

set_option maxHeartbeats 4000000 in
set_option maxRecDepth 100000 in
/-- clash -/
theorem k_W_clash_1 (l : Launch) (K : zK) (G : Nat → Nat) (A : Nat → Prop) (hD : ∀ σ, va_D A (cW K G σ)) (σ : cS) (n : Nat) (hn : n < 5) (hB : cB σ) : zMet l K A zy_W_clash zws_W_clash 1 [.ref (G 0), .int (nI n)] (cW K G σ) (cW K G σ) (some (.int (cW_clash σ n))) := by
  have hBo := hB.1
  have hBa := hB.2.1
  refine z_entry (by decide) (Nat.le_of_ble_eq_true rfl) ?_
  intro p e s m below meth c ls X hr hml hlocks hP hl
  have hS : va_S A s.heap s.heap [] := va_S.rf
  have hl : lv_has ls 2 [(0, .ref (G 0)), (1, .int (nI n))] := hl
  refine lv_iload_n X.1 X.2.1 zd_W_clash_0 rfl (lv_at hl 1 rfl) ?_
  refine lv_if_lt (tgt := 18) X.1 X.2.1 zd_W_clash_1 (by decide) (fun h9 => absurd h9 (nI_pos (by omega))) (fun _ => ?_)
  refine lv_iload_n X.1 X.2.1 zd_W_clash_4 rfl (lv_at hl 1 rfl) ?_
  refine lv_iconst (v := nI 5) X.1 X.2.1 zd_W_clash_5 (by decide) ?_
  refine lv_icmp_ge (tgt := 18) X.1 X.2.1 zd_W_clash_6 (by decide) (fun h9 => absurd h9 (by rw [nI_leI (by omega) (by omega)]; omega)) (fun _ => ?_)
  refine lv_aload_n X.1 X.2.1 zd_W_clash_9 rfl (lv_at hl 0 rfl) ?_
  refine g_cW_latestClash X hP zd_W_clash_10 ?_
  refine lv_iload_n X.1 X.2.1 zd_W_clash_13 rfl (lv_at hl 1 rfl) ?_
  refine l_cW_clash X hP (by omega) zd_W_clash_14 ?_
  refine lv_goto (tgt := 19) X.1 X.2.1 zd_W_clash_15 (by decide) ?_
  exact z_iret X.1 X.2.1 hr hlocks rfl rfl hP hS zd_W_clash_19

set_option maxHeartbeats 4000000 in
set_option maxRecDepth 100000 in
/-- clash: none such -/
theorem k_W_clash_n (l : Launch) (K : zK) (G : Nat → Nat) (A : Nat → Prop) (hD : ∀ σ, va_D A (cW K G σ)) (σ : cS) (x : Int32) (h : ¬ ∃ n, n < 5 ∧ x = nI n) (hB : cB σ) : zMet l K A zy_W_clash zws_W_clash 1 [.ref (G 0), .int x] (cW K G σ) (cW K G σ) (some (.int (-1))) := by
  have hBo := hB.1
  have hBa := hB.2.1
  refine z_entry (by decide) (Nat.le_of_ble_eq_true rfl) ?_
  intro p e s m below meth c ls X hr hml hlocks hP hl
  have hS : va_S A s.heap s.heap [] := va_S.rf
  have hl : lv_has ls 2 [(0, .ref (G 0)), (1, .int x)] := hl
  refine lv_iload_n X.1 X.2.1 zd_W_clash_0 rfl (lv_at hl 1 rfl) ?_
  refine lv_if_lt (tgt := 18) X.1 X.2.1 zd_W_clash_1 (by decide) (fun c1 => ?_) (fun c1 => ?_)
  · refine lv_iconst (v := -1) X.1 X.2.1 zd_W_clash_18 (by decide) ?_
    exact z_iret X.1 X.2.1 hr hlocks rfl rfl hP hS zd_W_clash_19
  · refine lv_iload_n X.1 X.2.1 zd_W_clash_4 rfl (lv_at hl 1 rfl) ?_
    refine lv_iconst (v := nI 5) X.1 X.2.1 zd_W_clash_5 (by decide) ?_
    refine lv_icmp_ge (tgt := 18) X.1 X.2.1 zd_W_clash_6 (by decide) (fun c2 => ?_) (fun c2 => ?_)
    · refine lv_iconst (v := -1) X.1 X.2.1 zd_W_clash_18 (by decide) ?_
      exact z_iret X.1 X.2.1 hr hlocks rfl rfl hP hS zd_W_clash_19
    · exact absurd (z_rng c1 c2 (by decide)) h

set_option maxHeartbeats 4000000 in
set_option maxRecDepth 100000 in
/-- worked: none such -/
theorem k_W_worked_n (l : Launch) (K : zK) (G : Nat → Nat) (A : Nat → Prop) (hD : ∀ σ, va_D A (cW K G σ)) (σ : cS) (x y : Int32) (h : ¬ ∃ t a, t < cT_opened σ ∧ x = nI t ∧ a < cA_opened σ ∧ y = nI a) (hB : cB σ) : zMet l K A zy_W_worked zws_W_worked 1 [.ref (G 0), .int x, .int y] (cW K G σ) (cW K G σ) (some (.int (nI 0))) := by
  have hBo := hB.1
  have hBa := hB.2.1
  refine z_entry (by decide) (Nat.le_of_ble_eq_true rfl) ?_
  intro p e s m below meth c ls X hr hml hlocks hP hl
  have hS : va_S A s.heap s.heap [] := va_S.rf
  have hl : lv_has ls 3 [(0, .ref (G 0)), (1, .int x), (2, .int y)] := hl
  refine lv_aload_n X.1 X.2.1 zd_W_worked_0 rfl (lv_at hl 0 rfl) ?_
  refine g_cW_targets X hP zd_W_worked_1 ?_
  refine lv_iload_n X.1 X.2.1 zd_W_worked_4 rfl (lv_at hl 1 rfl) ?_
  refine z_callVi (As := [.int x]) (rest := []) (q0 := 1) (ci := 0) X hml (k_T_has l K G A hD σ x) (zk_W_44 X.2.2.2.1 (z_rm (by omega) (by decide))) rfl rfl rfl hP hS rfl hl.1 rfl (Nat.le_of_ble_eq_true rfl) zd_W_worked_5 ⟨Nat.zero_le _, Nat.zero_le _⟩ (fun H locs hP hS => ?_)
  refine lv_if_eq (tgt := 22) X.1 X.2.1 zd_W_worked_8 (by decide) (fun c1 => ?_) (fun c1 => ?_)
  · rw [z_eq0 (cHas_lt _ _)] at c1
    refine lv_iconst (v := nI 0) X.1 X.2.1 zd_W_worked_22 (by decide) ?_
    exact z_iret X.1 X.2.1 hr hlocks rfl rfl hP hS zd_W_worked_23
  · rw [z_eq0 (cHas_lt _ _)] at c1
    obtain ⟨t, ht, rfl⟩ := cHas_ex (by omega) c1
    refine lv_aload_n X.1 X.2.1 zd_W_worked_11 rfl (lv_at hl 0 rfl) ?_
    refine g_cW_aspects X hP zd_W_worked_12 ?_
    refine lv_iload_n X.1 X.2.1 zd_W_worked_15 rfl (lv_at hl 2 rfl) ?_
    refine z_callVi (As := [.int y]) (rest := []) (q0 := 2) (ci := 1) X hml (k_A_has l K G A hD σ y) (zk_W_73 X.2.2.2.1 (z_rm (by omega) (by decide))) rfl rfl rfl hP hS rfl hl.1 rfl (Nat.le_of_ble_eq_true rfl) zd_W_worked_16 ⟨Nat.zero_le _, Nat.zero_le _⟩ (fun H locs hP hS => ?_)
    refine lv_if_ne (tgt := 24) X.1 X.2.1 zd_W_worked_19 (by decide) (fun c2 => ?_) (fun c2 => ?_)
    · rw [z_eq0 (cHas_lt _ _)] at c2
      obtain ⟨a, ha, rfl⟩ := cHas_ex (by omega) c2
      exact absurd ⟨t, a, ht, rfl, ha, rfl⟩ h
    · rw [z_eq0 (cHas_lt _ _)] at c2
      refine lv_iconst (v := nI 0) X.1 X.2.1 zd_W_worked_22 (by decide) ?_
      exact z_iret X.1 X.2.1 hr hlocks rfl rfl hP hS zd_W_worked_23

set_option maxHeartbeats 4000000 in
set_option maxRecDepth 100000 in
/-- worked -/
theorem k_W_worked_1 (l : Launch) (K : zK) (G : Nat → Nat) (A : Nat → Prop) (hD : ∀ σ, va_D A (cW K G σ)) (σ : cS) (t a : Nat) (ht : t < cT_opened σ) (ha : a < cA_opened σ) (hB : cB σ) : zMet l K A zy_W_worked zws_W_worked 2 [.ref (G 0), .int (nI t), .int (nI a)] (cW K G σ) (cW K G σ) (some (.int (cM_doneTimes σ (cT_ends σ t * 8 + a)))) := by
  have hBo := hB.1
  have hBa := hB.2.1
  refine z_entry (by decide) (Nat.le_of_ble_eq_true rfl) ?_
  intro p e s m below meth c ls X hr hml hlocks hP hl
  have hS : va_S A s.heap s.heap [] := va_S.rf
  have hl : lv_has ls 3 [(0, .ref (G 0)), (1, .int (nI t)), (2, .int (nI a))] := hl
  refine lv_aload_n X.1 X.2.1 zd_W_worked_0 rfl (lv_at hl 0 rfl) ?_
  refine g_cW_targets X hP zd_W_worked_1 ?_
  refine lv_iload_n X.1 X.2.1 zd_W_worked_4 rfl (lv_at hl 1 rfl) ?_
  refine z_callVi (As := [.int (nI t)]) (rest := []) (q0 := 1) (ci := 0) X hml (k_T_has l K G A hD σ (nI t)) (zk_W_44 X.2.2.2.1 (z_rm (by omega) (by decide))) rfl rfl rfl hP hS rfl hl.1 rfl (Nat.le_of_ble_eq_true rfl) zd_W_worked_5 ⟨Nat.zero_le _, Nat.zero_le _⟩ (fun H locs hP hS => ?_)
  refine lv_if_eq (tgt := 22) X.1 X.2.1 zd_W_worked_8 (by decide) (fun h9 => absurd h9 (by rw [cHas_y ht (by omega)]; decide)) (fun _ => ?_)
  refine lv_aload_n X.1 X.2.1 zd_W_worked_11 rfl (lv_at hl 0 rfl) ?_
  refine g_cW_aspects X hP zd_W_worked_12 ?_
  refine lv_iload_n X.1 X.2.1 zd_W_worked_15 rfl (lv_at hl 2 rfl) ?_
  refine z_callVi (As := [.int (nI a)]) (rest := []) (q0 := 2) (ci := 1) X hml (k_A_has l K G A hD σ (nI a)) (zk_W_73 X.2.2.2.1 (z_rm (by omega) (by decide))) rfl rfl rfl hP hS rfl hl.1 rfl (Nat.le_of_ble_eq_true rfl) zd_W_worked_16 ⟨Nat.zero_le _, Nat.zero_le _⟩ (fun H locs hP hS => ?_)
  refine lv_if_ne (tgt := 24) X.1 X.2.1 zd_W_worked_19 (by decide) (fun _ => ?_) (fun h9 => absurd h9 (by rw [cHas_y ha (by omega)]; decide))
  refine lv_aload_n X.1 X.2.1 zd_W_worked_24 rfl (lv_at hl 0 rfl) ?_
  refine g_cW_memory X hP zd_W_worked_25 ?_
  refine lv_aload_n X.1 X.2.1 zd_W_worked_28 rfl (lv_at hl 0 rfl) ?_
  refine g_cW_targets X hP zd_W_worked_29 ?_
  refine lv_iload_n X.1 X.2.1 zd_W_worked_32 rfl (lv_at hl 1 rfl) ?_
  refine z_callVi (As := [.int (nI t)]) (rest := [.ref (G 3)]) (q0 := 1) (ci := 0) X hml (k_T_end l K G A hD σ t (by omega)) (zk_W_52 X.2.2.2.1 (z_rm (by omega) (by decide))) rfl rfl rfl hP hS rfl hl.1 rfl (Nat.le_of_ble_eq_true rfl) zd_W_worked_33 ⟨Nat.zero_le _, Nat.zero_le _⟩ (fun H locs hP hS => ?_)
  refine lv_iload_n X.1 X.2.1 zd_W_worked_36 rfl (lv_at hl 2 rfl) ?_
  refine z_callVi (As := [.int (nI (cT_ends σ t)), .int (nI a)]) (rest := []) (q0 := 3) (ci := 2) X hml (k_M_timesDone l K G A hD σ (cT_ends σ t) a (hB.2.2.1 _) (by omega)) (zk_W_118 X.2.2.2.1 (z_rm (by omega) (by decide))) rfl rfl rfl hP hS rfl hl.1 rfl (Nat.le_of_ble_eq_true rfl) zd_W_worked_37 ⟨Nat.zero_le _, Nat.zero_le _⟩ (fun H locs hP hS => ?_)
  exact z_iret X.1 X.2.1 hr hlocks rfl rfl hP hS zd_W_worked_40

set_option maxHeartbeats 4000000 in
set_option maxRecDepth 100000 in
/-- done -/
theorem k_W_done (l : Launch) (K : zK) (G : Nat → Nat) (A : Nat → Prop) (hD : ∀ σ, va_D A (cW K G σ)) (σ : cS)  (hB : cB σ) : zMet l K A zy_W_done zws_W_done 1 [.ref (G 0)] (cW K G σ) (cW K G σ) (some (.int (cM_nowDone σ))) := by
  have hBo := hB.1
  have hBa := hB.2.1
  refine z_entry (by decide) (Nat.le_of_ble_eq_true rfl) ?_
  intro p e s m below meth c ls X hr hml hlocks hP hl
  have hS : va_S A s.heap s.heap [] := va_S.rf
  have hl : lv_has ls 1 [(0, .ref (G 0))] := hl
  refine lv_aload_n X.1 X.2.1 zd_W_done_0 rfl (lv_at hl 0 rfl) ?_
  refine g_cW_memory X hP zd_W_done_1 ?_
  refine z_callVi (As := []) (rest := []) (q0 := 3) (ci := 2) X hml (k_M_doneCount l K G A hD σ ) (zk_W_122 X.2.2.2.1 (z_rm (by omega) (by decide))) rfl rfl rfl hP hS rfl hl.1 rfl (Nat.le_of_ble_eq_true rfl) zd_W_done_4 ⟨Nat.zero_le _, Nat.zero_le _⟩ (fun H locs hP hS => ?_)
  exact z_iret X.1 X.2.1 hr hlocks rfl rfl hP hS zd_W_done_7

set_option maxHeartbeats 4000000 in
set_option maxRecDepth 100000 in
/-- maker -/
theorem k_W_maker_1 (l : Launch) (K : zK) (G : Nat → Nat) (A : Nat → Prop) (hD : ∀ σ, va_D A (cW K G σ)) (σ : cS) (t q : Nat) (ht : t < cT_opened σ) (hq : q < 10) (hB : cB σ) : zMet l K A zy_W_maker zws_W_maker 1 [.ref (G 0), .int (nI t), .int (nI q)] (cW K G σ) (cW K G σ) (some (.int (cM_makers σ (cT_ends σ t * 10 + q)))) := by
  have hBo := hB.1
  have hBa := hB.2.1
  refine z_entry (by decide) (Nat.le_of_ble_eq_true rfl) ?_
  intro p e s m below meth c ls X hr hml hlocks hP hl
  have hS : va_S A s.heap s.heap [] := va_S.rf
  have hl : lv_has ls 3 [(0, .ref (G 0)), (1, .int (nI t)), (2, .int (nI q))] := hl
  refine lv_aload_n X.1 X.2.1 zd_W_maker_0 rfl (lv_at hl 0 rfl) ?_
  refine g_cW_targets X hP zd_W_maker_1 ?_
  refine lv_iload_n X.1 X.2.1 zd_W_maker_4 rfl (lv_at hl 1 rfl) ?_
  refine z_callVi (As := [.int (nI t)]) (rest := []) (q0 := 1) (ci := 0) X hml (k_T_has l K G A hD σ (nI t)) (zk_W_44 X.2.2.2.1 (z_rm (by omega) (by decide))) rfl rfl rfl hP hS rfl hl.1 rfl (Nat.le_of_ble_eq_true rfl) zd_W_maker_5 ⟨Nat.zero_le _, Nat.zero_le _⟩ (fun H locs hP hS => ?_)
  refine lv_if_eq (tgt := 21) X.1 X.2.1 zd_W_maker_8 (by decide) (fun h9 => absurd h9 (by rw [cHas_y ht (by omega)]; decide)) (fun _ => ?_)
  refine lv_iload_n X.1 X.2.1 zd_W_maker_11 rfl (lv_at hl 2 rfl) ?_
  refine lv_if_lt (tgt := 21) X.1 X.2.1 zd_W_maker_12 (by decide) (fun h9 => absurd h9 (nI_pos (by omega))) (fun _ => ?_)
  refine lv_iload_n X.1 X.2.1 zd_W_maker_15 rfl (lv_at hl 2 rfl) ?_
  refine lv_bipush (v := nI 10) X.1 X.2.1 zd_W_maker_16 (by decide) ?_
  refine lv_icmp_lt (tgt := 23) X.1 X.2.1 zd_W_maker_18 (by decide) (fun _ => ?_) (fun h9 => absurd (by rw [nI_ltI (by omega) (by omega)]; omega) h9)
  refine lv_aload_n X.1 X.2.1 zd_W_maker_23 rfl (lv_at hl 0 rfl) ?_
  refine g_cW_memory X hP zd_W_maker_24 ?_
  refine lv_aload_n X.1 X.2.1 zd_W_maker_27 rfl (lv_at hl 0 rfl) ?_
  refine g_cW_targets X hP zd_W_maker_28 ?_
  refine lv_iload_n X.1 X.2.1 zd_W_maker_31 rfl (lv_at hl 1 rfl) ?_
  refine z_callVi (As := [.int (nI t)]) (rest := [.ref (G 3)]) (q0 := 1) (ci := 0) X hml (k_T_end l K G A hD σ t (by omega)) (zk_W_52 X.2.2.2.1 (z_rm (by omega) (by decide))) rfl rfl rfl hP hS rfl hl.1 rfl (Nat.le_of_ble_eq_true rfl) zd_W_maker_32 ⟨Nat.zero_le _, Nat.zero_le _⟩ (fun H locs hP hS => ?_)
  refine lv_iload_n X.1 X.2.1 zd_W_maker_35 rfl (lv_at hl 2 rfl) ?_
  refine z_callVi (As := [.int (nI (cT_ends σ t)), .int (nI q)]) (rest := []) (q0 := 3) (ci := 2) X hml (k_M_makerOf l K G A hD σ (cT_ends σ t) q (hB.2.2.1 _) (by omega)) (zk_W_126 X.2.2.2.1 (z_rm (by omega) (by decide))) rfl rfl rfl hP hS rfl hl.1 rfl (Nat.le_of_ble_eq_true rfl) zd_W_maker_36 ⟨Nat.zero_le _, Nat.zero_le _⟩ (fun H locs hP hS => ?_)
  exact z_iret X.1 X.2.1 hr hlocks rfl rfl hP hS zd_W_maker_39

set_option maxHeartbeats 4000000 in
set_option maxRecDepth 100000 in
/-- maker: none such -/
theorem k_W_maker_n (l : Launch) (K : zK) (G : Nat → Nat) (A : Nat → Prop) (hD : ∀ σ, va_D A (cW K G σ)) (σ : cS) (x y : Int32) (h : ¬ ∃ t q, t < cT_opened σ ∧ x = nI t ∧ q < 10 ∧ y = nI q) (hB : cB σ) : zMet l K A zy_W_maker zws_W_maker 1 [.ref (G 0), .int x, .int y] (cW K G σ) (cW K G σ) (some (.int (-1))) := by
  have hBo := hB.1
  have hBa := hB.2.1
  refine z_entry (by decide) (Nat.le_of_ble_eq_true rfl) ?_
  intro p e s m below meth c ls X hr hml hlocks hP hl
  have hS : va_S A s.heap s.heap [] := va_S.rf
  have hl : lv_has ls 3 [(0, .ref (G 0)), (1, .int x), (2, .int y)] := hl
  refine lv_aload_n X.1 X.2.1 zd_W_maker_0 rfl (lv_at hl 0 rfl) ?_
  refine g_cW_targets X hP zd_W_maker_1 ?_
  refine lv_iload_n X.1 X.2.1 zd_W_maker_4 rfl (lv_at hl 1 rfl) ?_
  refine z_callVi (As := [.int x]) (rest := []) (q0 := 1) (ci := 0) X hml (k_T_has l K G A hD σ x) (zk_W_44 X.2.2.2.1 (z_rm (by omega) (by decide))) rfl rfl rfl hP hS rfl hl.1 rfl (Nat.le_of_ble_eq_true rfl) zd_W_maker_5 ⟨Nat.zero_le _, Nat.zero_le _⟩ (fun H locs hP hS => ?_)
  refine lv_if_eq (tgt := 21) X.1 X.2.1 zd_W_maker_8 (by decide) (fun c1 => ?_) (fun c1 => ?_)
  · rw [z_eq0 (cHas_lt _ _)] at c1
    refine lv_iconst (v := -1) X.1 X.2.1 zd_W_maker_21 (by decide) ?_
    exact z_iret X.1 X.2.1 hr hlocks rfl rfl hP hS zd_W_maker_22
  · rw [z_eq0 (cHas_lt _ _)] at c1
    obtain ⟨t, ht, rfl⟩ := cHas_ex (by omega) c1
    refine lv_iload_n X.1 X.2.1 zd_W_maker_11 rfl (lv_at hl 2 rfl) ?_
    refine lv_if_lt (tgt := 21) X.1 X.2.1 zd_W_maker_12 (by decide) (fun c2 => ?_) (fun c2 => ?_)
    · refine lv_iconst (v := -1) X.1 X.2.1 zd_W_maker_21 (by decide) ?_
      exact z_iret X.1 X.2.1 hr hlocks rfl rfl hP hS zd_W_maker_22
    · refine lv_iload_n X.1 X.2.1 zd_W_maker_15 rfl (lv_at hl 2 rfl) ?_
      refine lv_bipush (v := nI 10) X.1 X.2.1 zd_W_maker_16 (by decide) ?_
      refine lv_icmp_lt (tgt := 23) X.1 X.2.1 zd_W_maker_18 (by decide) (fun c3 => ?_) (fun c3 => ?_)
      · exact absurd (by obtain ⟨q, hq, e⟩ := z_rng c2 (show ¬ nI 10 ≤ y from Int32.not_le.mpr c3) (by decide); exact ⟨t, q, ht, rfl, hq, e⟩) h
      · refine lv_iconst (v := -1) X.1 X.2.1 zd_W_maker_21 (by decide) ?_
        exact z_iret X.1 X.2.1 hr hlocks rfl rfl hP hS zd_W_maker_22
end
section
/-! contracts of the reference (by program: wip/gen/r1.py) -/
/-- the bounds that the reference keeps -/
def mB (σ : mS) : Prop := mR_targets σ ≤ 20 ∧ mR_aspects σ ≤ 8 ∧ (∀ q, mR_standsFor σ q < 20) ∧ (∀ q, mR_row σ q < 20) ∧ (∀ q, mR_rowSize σ q ≤ 4) ∧ (∀ q, mR_needs σ q < 8) ∧ (∀ q, mR_needMany σ q ≤ 3) ∧ (∀ q, mR_kind σ q ≤ 3) ∧ (∀ q, mR_nameOf σ q = -1 ∨ ∃ n, n < 10 ∧ mR_nameOf σ q = nI n)
/-- and in what changes more often -/
def mC (σ : mS) : Prop := (∀ q, mR_known σ q ≤ 2) ∧ (∀ q, mR_madeBy σ q = -1 ∨ ∃ n, n < 128 ∧ mR_madeBy σ q = nI n) ∧ (∀ q, mR_touched σ q ≤ 1)
def mHi (σ : mS) (t z h : Nat) : Nat → Nat
  | 0 => h
  | j + 1 => if mHi σ t z h j = 0 then (if mR_touched σ (mR_standsFor σ (mR_row σ (12 * t + 4 * z + j))) = 0 then 0 else 1) else 1
def mHo (σ : mS) (t : Nat) : Nat → Nat
  | 0 => 0
  | z + 1 => mHi σ t z (mHo σ t z) (mR_rowSize σ (3 * t + z))
theorem mHi_le {σ : mS} {t z h : Nat} (hh : h ≤ 1) (j : Nat) : mHi σ t z h j ≤ 1 := by
  induction j with
  | zero => exact hh
  | succ j ih => unfold mHi; split <;> (try split) <;> omega
theorem mHo_le (σ : mS) (t z : Nat) : mHo σ t z ≤ 1 := by
  induction z with
  | zero => exact Nat.zero_le 1
  | succ z ih => unfold mHo; exact mHi_le ih _
def mFK (σ : mS) (t : Nat) : Nat → mS
  | 0 => σ
  | i + 1 => p_mR_known (mFK σ t i) (upN (mR_known (mFK σ t i)) (128 * t + i) 0)
def mFM (σ : mS) (t : Nat) : Nat → mS
  | 0 => σ
  | i + 1 => p_mR_madeBy (mFM σ t i) (upd (mR_madeBy (mFM σ t i)) (10 * t + i) (-1))
def mForgetT (σ : mS) (t : Nat) : mS := mFM (mFK σ t 128) t 10
/-- whether u is touched, t being what changed -/
def mTb (σ : mS) (t u : Nat) : Nat := if u = t then 1 else if mR_standsFor σ u = u then (if mHo σ u 3 = 0 then 0 else 1) else 0
theorem mTb_le (σ : mS) (t u : Nat) : mTb σ t u ≤ 1 := by unfold mTb; split <;> (try split) <;> (try split) <;> omega
def mFF (σ : mS) (t : Nat) : Nat → mS
  | 0 => σ
  | u + 1 => if mTb (mFF σ t u) t u = 0 then p_mR_touched (mFF σ t u) (upN (mR_touched (mFF σ t u)) u 0) else mForgetT (p_mR_touched (mFF σ t u) (upN (mR_touched (mFF σ t u)) u 1)) u
def mOpen (σ : mS) (v : Int64) (g : Int32) : mS := p_mR_targets (p_mR_providers (p_mR_value (p_mR_standsFor (p_mR_thrown σ 0) (upN (mR_standsFor σ) (mR_targets σ) (mR_targets σ))) (vp_updL (mR_value σ) (mR_targets σ) v)) (upd (mR_providers σ) (mR_targets σ) g)) (mR_targets σ + 1)
def mOpenAlias (σ : mS) (o : Nat) : mS := p_mR_targets (p_mR_standsFor (p_mR_thrown σ 0) (upN (mR_standsFor σ) (mR_targets σ) (mR_standsFor σ o))) (mR_targets σ + 1)

set_option maxHeartbeats 4000000 in
set_option maxRecDepth 100000 in
/-- thrown() -/
theorem r_thrown (l : Launch) (K : zK) (G : Nat → Nat) (A : Nat → Prop) (hD : ∀ σ, va_D A (mW K G σ)) (σ : mS)  : zMet l K A zy_R_thrown zws_R_thrown 0 [.ref (G 0)] (mW K G σ) (mW K G σ) (some (.int (nI (mR_thrown σ)))) := by
  refine z_entry (by decide) (Nat.le_of_ble_eq_true rfl) ?_
  intro p e s m below meth c ls X hr hml hlocks hP hl
  have hS : va_S A s.heap s.heap [] := va_S.rf
  have hl : lv_has ls 1 [(0, .ref (G 0))] := hl
  refine lv_aload_n X.1 X.2.1 zd_R_thrown_0 rfl (lv_at hl 0 rfl) ?_
  refine g_mR_thrown X hP zd_R_thrown_1 ?_
  exact z_iret X.1 X.2.1 hr hlocks rfl rfl hP hS zd_R_thrown_4

set_option maxHeartbeats 4000000 in
set_option maxRecDepth 100000 in
/-- isTarget(x) -/
theorem r_isTarget (l : Launch) (K : zK) (G : Nat → Nat) (A : Nat → Prop) (hD : ∀ σ, va_D A (mW K G σ)) (σ : mS) (x : Int32) : zMet l K A zy_R_isTarget zws_R_isTarget 0 [.ref (G 0), .int x] (mW K G σ) (mW K G σ) (some (.int (nI (cHas (mR_targets σ) x)))) := by
  refine z_entry (by decide) (Nat.le_of_ble_eq_true rfl) ?_
  intro p e s m below meth c ls X hr hml hlocks hP hl
  have hS : va_S A s.heap s.heap [] := va_S.rf
  have hl : lv_has ls 2 [(0, .ref (G 0)), (1, .int x)] := hl
  refine lv_iload_n X.1 X.2.1 zd_R_isTarget_0 rfl (lv_at hl 1 rfl) ?_
  refine lv_if_lt (tgt := 16) X.1 X.2.1 zd_R_isTarget_1 (by decide) (fun c1 => ?_) (fun c1 => ?_)
  · refine lv_iconst (v := nI 0) X.1 X.2.1 zd_R_isTarget_16 (by decide) ?_
    exact z_zret X.1 X.2.1 hr hlocks (Or.inl rfl) (by simp [cHas, *]) rfl hP hS zd_R_isTarget_17
  · refine lv_iload_n X.1 X.2.1 zd_R_isTarget_4 rfl (lv_at hl 1 rfl) ?_
    refine lv_aload_n X.1 X.2.1 zd_R_isTarget_5 rfl (lv_at hl 0 rfl) ?_
    refine g_mR_targets X hP zd_R_isTarget_6 ?_
    refine lv_icmp_ge (tgt := 16) X.1 X.2.1 zd_R_isTarget_9 (by decide) (fun c2 => ?_) (fun c2 => ?_)
    · refine lv_iconst (v := nI 0) X.1 X.2.1 zd_R_isTarget_16 (by decide) ?_
      exact z_zret X.1 X.2.1 hr hlocks (Or.inl rfl) (by simp [cHas, *]) rfl hP hS zd_R_isTarget_17
    · refine lv_iconst (v := nI 1) X.1 X.2.1 zd_R_isTarget_12 (by decide) ?_
      refine lv_goto (tgt := 17) X.1 X.2.1 zd_R_isTarget_13 (by decide) ?_
      exact z_zret X.1 X.2.1 hr hlocks (Or.inr rfl) (by simp [cHas, *]) rfl hP hS zd_R_isTarget_17

set_option maxHeartbeats 4000000 in
set_option maxRecDepth 100000 in
/-- isAspect(x) -/
theorem r_isAspect (l : Launch) (K : zK) (G : Nat → Nat) (A : Nat → Prop) (hD : ∀ σ, va_D A (mW K G σ)) (σ : mS) (x : Int32) : zMet l K A zy_R_isAspect zws_R_isAspect 0 [.ref (G 0), .int x] (mW K G σ) (mW K G σ) (some (.int (nI (cHas (mR_aspects σ) x)))) := by
  refine z_entry (by decide) (Nat.le_of_ble_eq_true rfl) ?_
  intro p e s m below meth c ls X hr hml hlocks hP hl
  have hS : va_S A s.heap s.heap [] := va_S.rf
  have hl : lv_has ls 2 [(0, .ref (G 0)), (1, .int x)] := hl
  refine lv_iload_n X.1 X.2.1 zd_R_isAspect_0 rfl (lv_at hl 1 rfl) ?_
  refine lv_if_lt (tgt := 16) X.1 X.2.1 zd_R_isAspect_1 (by decide) (fun c1 => ?_) (fun c1 => ?_)
  · refine lv_iconst (v := nI 0) X.1 X.2.1 zd_R_isAspect_16 (by decide) ?_
    exact z_zret X.1 X.2.1 hr hlocks (Or.inl rfl) (by simp [cHas, *]) rfl hP hS zd_R_isAspect_17
  · refine lv_iload_n X.1 X.2.1 zd_R_isAspect_4 rfl (lv_at hl 1 rfl) ?_
    refine lv_aload_n X.1 X.2.1 zd_R_isAspect_5 rfl (lv_at hl 0 rfl) ?_
    refine g_mR_aspects X hP zd_R_isAspect_6 ?_
    refine lv_icmp_ge (tgt := 16) X.1 X.2.1 zd_R_isAspect_9 (by decide) (fun c2 => ?_) (fun c2 => ?_)
    · refine lv_iconst (v := nI 0) X.1 X.2.1 zd_R_isAspect_16 (by decide) ?_
      exact z_zret X.1 X.2.1 hr hlocks (Or.inl rfl) (by simp [cHas, *]) rfl hP hS zd_R_isAspect_17
    · refine lv_iconst (v := nI 1) X.1 X.2.1 zd_R_isAspect_12 (by decide) ?_
      refine lv_goto (tgt := 17) X.1 X.2.1 zd_R_isAspect_13 (by decide) ?_
      exact z_zret X.1 X.2.1 hr hlocks (Or.inr rfl) (by simp [cHas, *]) rfl hP hS zd_R_isAspect_17

set_option maxHeartbeats 4000000 in
set_option maxRecDepth 100000 in
/-- isSetting(x) -/
theorem r_isSetting (l : Launch) (K : zK) (G : Nat → Nat) (A : Nat → Prop) (hD : ∀ σ, va_D A (mW K G σ)) (σ : mS) (x : Int32) : zMet l K A zy_R_isSetting zws_R_isSetting 0 [.int x] (mW K G σ) (mW K G σ) (some (.int (nI (cHas 16 x)))) := by
  refine z_entry (by decide) (Nat.le_of_ble_eq_true rfl) ?_
  intro p e s m below meth c ls X hr hml hlocks hP hl
  have hS : va_S A s.heap s.heap [] := va_S.rf
  have hl : lv_has ls 1 [(0, .int x)] := hl
  refine lv_iload_n X.1 X.2.1 zd_R_isSetting_0 rfl (lv_at hl 0 rfl) ?_
  refine lv_if_lt (tgt := 14) X.1 X.2.1 zd_R_isSetting_1 (by decide) (fun c1 => ?_) (fun c1 => ?_)
  · refine lv_iconst (v := nI 0) X.1 X.2.1 zd_R_isSetting_14 (by decide) ?_
    exact z_zret X.1 X.2.1 hr hlocks (Or.inl rfl) (by simp [cHas, *]) rfl hP hS zd_R_isSetting_15
  · refine lv_iload_n X.1 X.2.1 zd_R_isSetting_4 rfl (lv_at hl 0 rfl) ?_
    refine lv_bipush (v := nI 16) X.1 X.2.1 zd_R_isSetting_5 (by decide) ?_
    refine lv_icmp_ge (tgt := 14) X.1 X.2.1 zd_R_isSetting_7 (by decide) (fun c2 => ?_) (fun c2 => ?_)
    · refine lv_iconst (v := nI 0) X.1 X.2.1 zd_R_isSetting_14 (by decide) ?_
      exact z_zret X.1 X.2.1 hr hlocks (Or.inl rfl) (by simp [cHas, *]) rfl hP hS zd_R_isSetting_15
    · refine lv_iconst (v := nI 1) X.1 X.2.1 zd_R_isSetting_10 (by decide) ?_
      refine lv_goto (tgt := 15) X.1 X.2.1 zd_R_isSetting_11 (by decide) ?_
      exact z_zret X.1 X.2.1 hr hlocks (Or.inr rfl) (by simp [cHas, *]) rfl hP hS zd_R_isSetting_15

set_option maxHeartbeats 4000000 in
set_option maxRecDepth 100000 in
/-- placeOf(t, a, k) -/
theorem r_placeOf (l : Launch) (K : zK) (G : Nat → Nat) (A : Nat → Prop) (hD : ∀ σ, va_D A (mW K G σ)) (σ : mS) (t a k : Nat) : zMet l K A zy_R_placeOf zws_R_placeOf 0 [.int (nI t), .int (nI a), .int (nI k)] (mW K G σ) (mW K G σ) (some (.int (nI ((t * 8 + a) * 16 + k)))) := by
  refine z_entry (by decide) (Nat.le_of_ble_eq_true rfl) ?_
  intro p e s m below meth c ls X hr hml hlocks hP hl
  have hS : va_S A s.heap s.heap [] := va_S.rf
  have hl : lv_has ls 3 [(0, .int (nI t)), (1, .int (nI a)), (2, .int (nI k))] := hl
  refine lv_iload_n X.1 X.2.1 zd_R_placeOf_0 rfl (lv_at hl 0 rfl) ?_
  refine lv_bipush (v := nI 8) X.1 X.2.1 zd_R_placeOf_1 (by decide) ?_
  refine lv_imul X.1 X.2.1 zd_R_placeOf_3 ?_
  refine z_top (pk_mul _ _) ?_
  refine lv_iload_n X.1 X.2.1 zd_R_placeOf_4 rfl (lv_at hl 1 rfl) ?_
  refine lv_iadd X.1 X.2.1 zd_R_placeOf_5 ?_
  refine z_top (nI_add _ _) ?_
  refine lv_bipush (v := nI 16) X.1 X.2.1 zd_R_placeOf_6 (by decide) ?_
  refine lv_imul X.1 X.2.1 zd_R_placeOf_8 ?_
  refine z_top (pk_mul _ _) ?_
  refine lv_iload_n X.1 X.2.1 zd_R_placeOf_9 rfl (lv_at hl 2 rfl) ?_
  refine lv_iadd X.1 X.2.1 zd_R_placeOf_10 ?_
  refine z_top (nI_add _ _) ?_
  exact z_iret X.1 X.2.1 hr hlocks rfl rfl hP hS zd_R_placeOf_11

set_option maxHeartbeats 4000000 in
set_option maxRecDepth 100000 in
/-- isOwn(x) -/
theorem r_isOwn (l : Launch) (K : zK) (G : Nat → Nat) (A : Nat → Prop) (hD : ∀ σ, va_D A (mW K G σ)) (σ : mS) (x : Int32) (hB : mB σ) : zMet l K A zy_R_isOwn zws_R_isOwn 1 [.ref (G 0), .int x] (mW K G σ) (mW K G σ) (some (.int (nI (if cHas (mR_targets σ) x = 0 then 0 else if mR_standsFor σ x.toNatClampNeg = x.toNatClampNeg then 1 else 0)))) := by
  have hBo := hB.1
  refine z_entry (by decide) (Nat.le_of_ble_eq_true rfl) ?_
  intro p e s m below meth c ls X hr hml hlocks hP hl
  have hS : va_S A s.heap s.heap [] := va_S.rf
  have hl : lv_has ls 2 [(0, .ref (G 0)), (1, .int x)] := hl
  refine lv_aload_n X.1 X.2.1 zd_R_isOwn_0 rfl (lv_at hl 0 rfl) ?_
  refine lv_iload_n X.1 X.2.1 zd_R_isOwn_1 rfl (lv_at hl 1 rfl) ?_
  refine z_callVi (As := [.int x]) (rest := []) (q0 := 0) (ci := 4) X hml (r_isTarget l K G A hD σ x) (zk_R_82 X.2.2.2.1 (z_rm (by omega) (by decide))) rfl rfl rfl hP hS rfl hl.1 rfl (Nat.le_of_ble_eq_true rfl) zd_R_isOwn_2 ⟨Nat.zero_le _, Nat.zero_le _⟩ (fun H locs hP hS => ?_)
  refine lv_if_eq (tgt := 22) X.1 X.2.1 zd_R_isOwn_5 (by decide) (fun c1 => ?_) (fun c1 => ?_)
  · rw [z_eq0 (cHas_lt _ _)] at c1
    refine lv_iconst (v := nI 0) X.1 X.2.1 zd_R_isOwn_22 (by decide) ?_
    exact z_zret X.1 X.2.1 hr hlocks (Or.inl rfl) (by simp [*]) rfl hP hS zd_R_isOwn_23
  · rw [z_eq0 (cHas_lt _ _)] at c1
    obtain ⟨n, hn, rfl⟩ := cHas_ex (by omega) c1
    have hn20 := hB.2.2.1 n
    have hcl := nI_clamp (n := n) (by omega)
    refine lv_aload_n X.1 X.2.1 zd_R_isOwn_8 rfl (lv_at hl 0 rfl) ?_
    refine g_mR_standsFor X hP zd_R_isOwn_9 ?_
    refine lv_iload_n X.1 X.2.1 zd_R_isOwn_12 rfl (lv_at hl 1 rfl) ?_
    refine l_mR_standsFor X hP (by omega) zd_R_isOwn_13 ?_
    refine lv_iload_n X.1 X.2.1 zd_R_isOwn_14 rfl (lv_at hl 1 rfl) ?_
    refine lv_icmp_ne (tgt := 22) X.1 X.2.1 zd_R_isOwn_15 (by decide) (fun c2 => ?_) (fun c2 => ?_)
    · rw [nI_eq (by omega) (by omega)] at c2
      refine lv_iconst (v := nI 0) X.1 X.2.1 zd_R_isOwn_22 (by decide) ?_
      exact z_zret X.1 X.2.1 hr hlocks (Or.inl rfl) (by simp [*]) rfl hP hS zd_R_isOwn_23
    · rw [nI_eq (by omega) (by omega)] at c2
      refine lv_iconst (v := nI 1) X.1 X.2.1 zd_R_isOwn_18 (by decide) ?_
      refine lv_goto (tgt := 23) X.1 X.2.1 zd_R_isOwn_19 (by decide) ?_
      exact z_zret X.1 X.2.1 hr hlocks (Or.inr rfl) (by simp [*]) rfl hP hS zd_R_isOwn_23

set_option maxHeartbeats 4000000 in
set_option maxRecDepth 100000 in
/-- target: a new one -/
theorem r_target_1 (l : Launch) (K : zK) (G : Nat → Nat) (A : Nat → Prop) (hD : ∀ σ, va_D A (mW K G σ)) (σ : mS) (v : Int64) (g : Int32) (hB : mB σ) (ho : mR_targets σ < 20) : zMet l K A zy_R_target zws_R_target 1 [.ref (G 0), .long v, .int g] (mW K G σ) (mW K G (mOpen σ v (g &&& nI 255))) (some (.int (nI (mR_targets σ)))) := by
  refine z_entry (by decide) (Nat.le_of_ble_eq_true rfl) ?_
  intro p e s m below meth c ls X hr hml hlocks hP hl
  have hS : va_S A s.heap s.heap [] := va_S.rf
  have hl : lv_has ls 4 [(0, .ref (G 0)), (1, .long v), (3, .int g)] := hl
  refine lv_aload_n X.1 X.2.1 zd_R_target_0 rfl (lv_at hl 0 rfl) ?_
  refine lv_iconst (v := nI 0) X.1 X.2.1 zd_R_target_1 (by decide) ?_
  refine s_mR_thrown X hD hP hS zd_R_target_2 (fun H locs hP hS => ?_)
  have hP : va_P K.1 zcl (mW K G (p_mR_thrown σ 0)) H := hP
  refine lv_aload_n X.1 X.2.1 zd_R_target_5 rfl (lv_at hl 0 rfl) ?_
  refine g_mR_targets X hP zd_R_target_6 ?_
  refine z_top (y := (nI (mR_targets σ))) rfl ?_
  refine lv_bipush (v := nI 20) X.1 X.2.1 zd_R_target_9 (by decide) ?_
  refine lv_icmp_ne (tgt := 16) X.1 X.2.1 zd_R_target_11 (by decide) (fun _ => ?_) (fun h9 => absurd h9 (by rw [nI_eq (by omega) (by omega)]; omega))
  refine lv_aload_n X.1 X.2.1 zd_R_target_16 rfl (lv_at hl 0 rfl) ?_
  refine g_mR_standsFor X hP zd_R_target_17 ?_
  refine lv_aload_n X.1 X.2.1 zd_R_target_20 rfl (lv_at hl 0 rfl) ?_
  refine g_mR_targets X hP zd_R_target_21 ?_
  refine z_top (y := (nI (mR_targets σ))) rfl ?_
  refine lv_aload_n X.1 X.2.1 zd_R_target_24 rfl (lv_at hl 0 rfl) ?_
  refine g_mR_targets X hP zd_R_target_25 ?_
  refine z_top (y := (nI (mR_targets σ))) rfl ?_
  refine s_mR_standsFor X hD hP hS (by omega) zd_R_target_28 (fun H locs hP hS => ?_)
  have hP : va_P K.1 zcl (mW K G (p_mR_standsFor (p_mR_thrown σ 0) (upN (mR_standsFor σ) (mR_targets σ) (mR_targets σ)))) H := hP
  refine lv_aload_n X.1 X.2.1 zd_R_target_29 rfl (lv_at hl 0 rfl) ?_
  refine g_mR_value X hP zd_R_target_30 ?_
  refine lv_aload_n X.1 X.2.1 zd_R_target_33 rfl (lv_at hl 0 rfl) ?_
  refine g_mR_targets X hP zd_R_target_34 ?_
  refine z_top (y := (nI (mR_targets σ))) rfl ?_
  refine lv_lload_n X.1 X.2.1 zd_R_target_37 rfl (lv_at hl 1 rfl) ?_
  refine s_mR_value X hD hP hS (by omega) zd_R_target_38 (fun H locs hP hS => ?_)
  have hP : va_P K.1 zcl (mW K G (p_mR_value (p_mR_standsFor (p_mR_thrown σ 0) (upN (mR_standsFor σ) (mR_targets σ) (mR_targets σ))) (vp_updL (mR_value σ) (mR_targets σ) v))) H := hP
  refine lv_aload_n X.1 X.2.1 zd_R_target_39 rfl (lv_at hl 0 rfl) ?_
  refine g_mR_providers X hP zd_R_target_40 ?_
  refine lv_aload_n X.1 X.2.1 zd_R_target_43 rfl (lv_at hl 0 rfl) ?_
  refine g_mR_targets X hP zd_R_target_44 ?_
  refine z_top (y := (nI (mR_targets σ))) rfl ?_
  refine lv_iload_n X.1 X.2.1 zd_R_target_47 rfl (lv_at hl 2 rfl) ?_
  refine lv_sipush (v := nI 255) X.1 X.2.1 zd_R_target_48 (by decide) ?_
  refine lv_iand X.1 X.2.1 zd_R_target_51 ?_
  refine s_mR_providers X hD hP hS (by omega) zd_R_target_52 (fun H locs hP hS => ?_)
  have hP : va_P K.1 zcl (mW K G (p_mR_providers (p_mR_value (p_mR_standsFor (p_mR_thrown σ 0) (upN (mR_standsFor σ) (mR_targets σ) (mR_targets σ))) (vp_updL (mR_value σ) (mR_targets σ) v)) (upd (mR_providers σ) (mR_targets σ) (g &&& (nI 255))))) H := hP
  refine lv_aload_n X.1 X.2.1 zd_R_target_53 rfl (lv_at hl 0 rfl) ?_
  refine lv_dup X.1 X.2.1 zd_R_target_54 rfl ?_
  refine g_mR_targets X hP zd_R_target_55 ?_
  refine z_top (y := (nI (mR_targets σ))) rfl ?_
  refine lv_iconst (v := nI 1) X.1 X.2.1 zd_R_target_58 (by decide) ?_
  refine lv_iadd X.1 X.2.1 zd_R_target_59 ?_
  refine z_top (nI_add _ _) ?_
  refine s_mR_targets X hD hP hS zd_R_target_60 (fun H locs hP hS => ?_)
  have hP : va_P K.1 zcl (mW K G (p_mR_targets (p_mR_providers (p_mR_value (p_mR_standsFor (p_mR_thrown σ 0) (upN (mR_standsFor σ) (mR_targets σ) (mR_targets σ))) (vp_updL (mR_value σ) (mR_targets σ) v)) (upd (mR_providers σ) (mR_targets σ) (g &&& (nI 255)))) ((mR_targets σ) + 1))) H := hP
  refine lv_aload_n X.1 X.2.1 zd_R_target_63 rfl (lv_at hl 0 rfl) ?_
  refine g_mR_targets X hP zd_R_target_64 ?_
  refine z_top (y := (nI ((mR_targets σ) + 1))) rfl ?_
  refine lv_iconst (v := nI 1) X.1 X.2.1 zd_R_target_67 (by decide) ?_
  refine lv_isub X.1 X.2.1 zd_R_target_68 ?_
  refine z_top (pk_sub (by omega)) ?_
  exact z_iret X.1 X.2.1 hr hlocks rfl rfl hP hS zd_R_target_69

set_option maxHeartbeats 4000000 in
set_option maxRecDepth 100000 in
/-- target: full -/
theorem r_target_0 (l : Launch) (K : zK) (G : Nat → Nat) (A : Nat → Prop) (hD : ∀ σ, va_D A (mW K G σ)) (σ : mS) (v : Int64) (g : Int32) (hB : mB σ) (ho : mR_targets σ = 20) : zMet l K A zy_R_target zws_R_target 1 [.ref (G 0), .long v, .int g] (mW K G σ) (mW K G (p_mR_thrown σ 0)) (some (.int (-1))) := by
  refine z_entry (by decide) (Nat.le_of_ble_eq_true rfl) ?_
  intro p e s m below meth c ls X hr hml hlocks hP hl
  have hS : va_S A s.heap s.heap [] := va_S.rf
  have hl : lv_has ls 4 [(0, .ref (G 0)), (1, .long v), (3, .int g)] := hl
  refine lv_aload_n X.1 X.2.1 zd_R_target_0 rfl (lv_at hl 0 rfl) ?_
  refine lv_iconst (v := nI 0) X.1 X.2.1 zd_R_target_1 (by decide) ?_
  refine s_mR_thrown X hD hP hS zd_R_target_2 (fun H locs hP hS => ?_)
  have hP : va_P K.1 zcl (mW K G (p_mR_thrown σ 0)) H := hP
  refine lv_aload_n X.1 X.2.1 zd_R_target_5 rfl (lv_at hl 0 rfl) ?_
  refine g_mR_targets X hP zd_R_target_6 ?_
  refine z_top (y := (nI (mR_targets σ))) rfl ?_
  refine lv_bipush (v := nI 20) X.1 X.2.1 zd_R_target_9 (by decide) ?_
  refine lv_icmp_ne (tgt := 16) X.1 X.2.1 zd_R_target_11 (by decide) (fun h9 => absurd (by rw [nI_eq (by omega) (by omega)]; omega) h9) (fun _ => ?_)
  refine lv_iconst (v := -1) X.1 X.2.1 zd_R_target_14 (by decide) ?_
  exact z_iret X.1 X.2.1 hr hlocks rfl rfl hP hS zd_R_target_15

set_option maxHeartbeats 4000000 in
set_option maxRecDepth 100000 in
/-- alias: none such -/
theorem r_alias_n (l : Launch) (K : zK) (G : Nat → Nat) (A : Nat → Prop) (hD : ∀ σ, va_D A (mW K G σ)) (σ : mS) (x : Int32) (hB : mB σ) (hx : cHas (mR_targets σ) x = 0) : zMet l K A zy_R_alias zws_R_alias 1 [.ref (G 0), .int x] (mW K G σ) (mW K G (p_mR_thrown σ 0)) (some (.int (-1))) := by
  have hBo := hB.1
  refine z_entry (by decide) (Nat.le_of_ble_eq_true rfl) ?_
  intro p e s m below meth c ls X hr hml hlocks hP hl
  have hS : va_S A s.heap s.heap [] := va_S.rf
  have hl : lv_has ls 2 [(0, .ref (G 0)), (1, .int x)] := hl
  refine lv_aload_n X.1 X.2.1 zd_R_alias_0 rfl (lv_at hl 0 rfl) ?_
  refine lv_iconst (v := nI 0) X.1 X.2.1 zd_R_alias_1 (by decide) ?_
  refine s_mR_thrown X hD hP hS zd_R_alias_2 (fun H locs hP hS => ?_)
  have hP : va_P K.1 zcl (mW K G (p_mR_thrown σ 0)) H := hP
  refine lv_aload_n X.1 X.2.1 zd_R_alias_5 rfl (lv_at hl 0 rfl) ?_
  refine g_mR_targets X hP zd_R_alias_6 ?_
  refine z_top (y := (nI (mR_targets σ))) rfl ?_
  refine lv_bipush (v := nI 20) X.1 X.2.1 zd_R_alias_9 (by decide) ?_
  refine lv_icmp_eq (tgt := 22) X.1 X.2.1 zd_R_alias_11 (by decide) (fun c1 => ?_) (fun c1 => ?_)
  · rw [nI_eq (by omega) (by omega)] at c1
    refine lv_iconst (v := -1) X.1 X.2.1 zd_R_alias_22 (by decide) ?_
    exact z_iret X.1 X.2.1 hr hlocks rfl rfl hP hS zd_R_alias_23
  · rw [nI_eq (by omega) (by omega)] at c1
    refine lv_aload_n X.1 X.2.1 zd_R_alias_14 rfl (lv_at hl 0 rfl) ?_
    refine lv_iload_n X.1 X.2.1 zd_R_alias_15 rfl (lv_at hl 1 rfl) ?_
    refine z_callVi (As := [.int x]) (rest := []) (q0 := 0) (ci := 4) X hml (r_isTarget l K G A hD (p_mR_thrown σ 0) x) (zk_R_82 X.2.2.2.1 (z_rm (by omega) (by decide))) rfl rfl rfl hP hS rfl hl.1 rfl (Nat.le_of_ble_eq_true rfl) zd_R_alias_16 ⟨Nat.zero_le _, Nat.zero_le _⟩ (fun H locs hP hS => ?_)
    refine lv_if_ne (tgt := 24) X.1 X.2.1 zd_R_alias_19 (by decide) (fun h9 => absurd (by show nI (cHas (mR_targets σ) x) = 0; rw [hx]; rfl) h9) (fun _ => ?_)
    refine lv_iconst (v := -1) X.1 X.2.1 zd_R_alias_22 (by decide) ?_
    exact z_iret X.1 X.2.1 hr hlocks rfl rfl hP hS zd_R_alias_23

set_option maxHeartbeats 4000000 in
set_option maxRecDepth 100000 in
/-- alias: a new one -/
theorem r_alias_1 (l : Launch) (K : zK) (G : Nat → Nat) (A : Nat → Prop) (hD : ∀ σ, va_D A (mW K G σ)) (σ : mS) (n : Nat) (hB : mB σ) (hn : n < mR_targets σ) (ho : mR_targets σ < 20) : zMet l K A zy_R_alias zws_R_alias 1 [.ref (G 0), .int (nI n)] (mW K G σ) (mW K G (mOpenAlias σ n)) (some (.int (nI (mR_targets σ)))) := by
  have hBo := hB.1
  refine z_entry (by decide) (Nat.le_of_ble_eq_true rfl) ?_
  intro p e s m below meth c ls X hr hml hlocks hP hl
  have hS : va_S A s.heap s.heap [] := va_S.rf
  have hl : lv_has ls 2 [(0, .ref (G 0)), (1, .int (nI n))] := hl
  refine lv_aload_n X.1 X.2.1 zd_R_alias_0 rfl (lv_at hl 0 rfl) ?_
  refine lv_iconst (v := nI 0) X.1 X.2.1 zd_R_alias_1 (by decide) ?_
  refine s_mR_thrown X hD hP hS zd_R_alias_2 (fun H locs hP hS => ?_)
  have hP : va_P K.1 zcl (mW K G (p_mR_thrown σ 0)) H := hP
  refine lv_aload_n X.1 X.2.1 zd_R_alias_5 rfl (lv_at hl 0 rfl) ?_
  refine g_mR_targets X hP zd_R_alias_6 ?_
  refine z_top (y := (nI (mR_targets σ))) rfl ?_
  refine lv_bipush (v := nI 20) X.1 X.2.1 zd_R_alias_9 (by decide) ?_
  refine lv_icmp_eq (tgt := 22) X.1 X.2.1 zd_R_alias_11 (by decide) (fun h9 => absurd h9 (by rw [nI_eq (by omega) (by omega)]; omega)) (fun _ => ?_)
  refine lv_aload_n X.1 X.2.1 zd_R_alias_14 rfl (lv_at hl 0 rfl) ?_
  refine lv_iload_n X.1 X.2.1 zd_R_alias_15 rfl (lv_at hl 1 rfl) ?_
  refine z_callVi (As := [.int (nI n)]) (rest := []) (q0 := 0) (ci := 4) X hml (r_isTarget l K G A hD (p_mR_thrown σ 0) (nI n)) (zk_R_82 X.2.2.2.1 (z_rm (by omega) (by decide))) rfl rfl rfl hP hS rfl hl.1 rfl (Nat.le_of_ble_eq_true rfl) zd_R_alias_16 ⟨Nat.zero_le _, Nat.zero_le _⟩ (fun H locs hP hS => ?_)
  refine lv_if_ne (tgt := 24) X.1 X.2.1 zd_R_alias_19 (by decide) (fun _ => ?_) (fun h9 => absurd h9 (by show ¬ nI (cHas (mR_targets σ) _) = 0; rw [cHas_y hn (by omega)]; decide))
  refine lv_aload_n X.1 X.2.1 zd_R_alias_24 rfl (lv_at hl 0 rfl) ?_
  refine g_mR_standsFor X hP zd_R_alias_25 ?_
  refine lv_aload_n X.1 X.2.1 zd_R_alias_28 rfl (lv_at hl 0 rfl) ?_
  refine g_mR_targets X hP zd_R_alias_29 ?_
  refine z_top (y := (nI (mR_targets σ))) rfl ?_
  refine lv_aload_n X.1 X.2.1 zd_R_alias_32 rfl (lv_at hl 0 rfl) ?_
  refine g_mR_standsFor X hP zd_R_alias_33 ?_
  refine lv_iload_n X.1 X.2.1 zd_R_alias_36 rfl (lv_at hl 1 rfl) ?_
  refine l_mR_standsFor X hP (by omega) zd_R_alias_37 ?_
  refine z_top (y := (nI (mR_standsFor σ n))) rfl ?_
  refine s_mR_standsFor X hD hP hS (by omega) zd_R_alias_38 (fun H locs hP hS => ?_)
  have hP : va_P K.1 zcl (mW K G (p_mR_standsFor (p_mR_thrown σ 0) (upN (mR_standsFor σ) (mR_targets σ) (mR_standsFor σ n)))) H := hP
  refine lv_aload_n X.1 X.2.1 zd_R_alias_39 rfl (lv_at hl 0 rfl) ?_
  refine lv_dup X.1 X.2.1 zd_R_alias_40 rfl ?_
  refine g_mR_targets X hP zd_R_alias_41 ?_
  refine z_top (y := (nI (mR_targets σ))) rfl ?_
  refine lv_iconst (v := nI 1) X.1 X.2.1 zd_R_alias_44 (by decide) ?_
  refine lv_iadd X.1 X.2.1 zd_R_alias_45 ?_
  refine z_top (nI_add _ _) ?_
  refine s_mR_targets X hD hP hS zd_R_alias_46 (fun H locs hP hS => ?_)
  have hP : va_P K.1 zcl (mW K G (p_mR_targets (p_mR_standsFor (p_mR_thrown σ 0) (upN (mR_standsFor σ) (mR_targets σ) (mR_standsFor σ n))) ((mR_targets σ) + 1))) H := hP
  refine lv_aload_n X.1 X.2.1 zd_R_alias_49 rfl (lv_at hl 0 rfl) ?_
  refine g_mR_targets X hP zd_R_alias_50 ?_
  refine z_top (y := (nI ((mR_targets σ) + 1))) rfl ?_
  refine lv_iconst (v := nI 1) X.1 X.2.1 zd_R_alias_53 (by decide) ?_
  refine lv_isub X.1 X.2.1 zd_R_alias_54 ?_
  refine z_top (pk_sub (by omega)) ?_
  exact z_iret X.1 X.2.1 hr hlocks rfl rfl hP hS zd_R_alias_55

set_option maxHeartbeats 4000000 in
set_option maxRecDepth 100000 in
/-- alias: full -/
theorem r_alias_0 (l : Launch) (K : zK) (G : Nat → Nat) (A : Nat → Prop) (hD : ∀ σ, va_D A (mW K G σ)) (σ : mS) (n : Nat) (hB : mB σ) (hn : n < mR_targets σ) (ho : mR_targets σ = 20) : zMet l K A zy_R_alias zws_R_alias 1 [.ref (G 0), .int (nI n)] (mW K G σ) (mW K G (p_mR_thrown σ 0)) (some (.int (-1))) := by
  refine z_entry (by decide) (Nat.le_of_ble_eq_true rfl) ?_
  intro p e s m below meth c ls X hr hml hlocks hP hl
  have hS : va_S A s.heap s.heap [] := va_S.rf
  have hl : lv_has ls 2 [(0, .ref (G 0)), (1, .int (nI n))] := hl
  refine lv_aload_n X.1 X.2.1 zd_R_alias_0 rfl (lv_at hl 0 rfl) ?_
  refine lv_iconst (v := nI 0) X.1 X.2.1 zd_R_alias_1 (by decide) ?_
  refine s_mR_thrown X hD hP hS zd_R_alias_2 (fun H locs hP hS => ?_)
  have hP : va_P K.1 zcl (mW K G (p_mR_thrown σ 0)) H := hP
  refine lv_aload_n X.1 X.2.1 zd_R_alias_5 rfl (lv_at hl 0 rfl) ?_
  refine g_mR_targets X hP zd_R_alias_6 ?_
  refine z_top (y := (nI (mR_targets σ))) rfl ?_
  refine lv_bipush (v := nI 20) X.1 X.2.1 zd_R_alias_9 (by decide) ?_
  refine lv_icmp_eq (tgt := 22) X.1 X.2.1 zd_R_alias_11 (by decide) (fun _ => ?_) (fun h9 => absurd (by rw [nI_eq (by omega) (by omega)]; omega) h9)
  refine lv_iconst (v := -1) X.1 X.2.1 zd_R_alias_22 (by decide) ?_
  exact z_iret X.1 X.2.1 hr hlocks rfl rfl hP hS zd_R_alias_23

set_option maxHeartbeats 4000000 in
set_option maxRecDepth 100000 in
/-- stands: none such -/
theorem r_stands_n (l : Launch) (K : zK) (G : Nat → Nat) (A : Nat → Prop) (hD : ∀ σ, va_D A (mW K G σ)) (σ : mS) (x : Int32) (hB : mB σ) (hx : cHas (mR_targets σ) x = 0) : zMet l K A zy_R_stands zws_R_stands 1 [.ref (G 0), .int x] (mW K G σ) (mW K G (p_mR_thrown σ 0)) (some (.int (-1))) := by
  refine z_entry (by decide) (Nat.le_of_ble_eq_true rfl) ?_
  intro p e s m below meth c ls X hr hml hlocks hP hl
  have hS : va_S A s.heap s.heap [] := va_S.rf
  have hl : lv_has ls 2 [(0, .ref (G 0)), (1, .int x)] := hl
  refine lv_aload_n X.1 X.2.1 zd_R_stands_0 rfl (lv_at hl 0 rfl) ?_
  refine lv_iconst (v := nI 0) X.1 X.2.1 zd_R_stands_1 (by decide) ?_
  refine s_mR_thrown X hD hP hS zd_R_stands_2 (fun H locs hP hS => ?_)
  have hP : va_P K.1 zcl (mW K G (p_mR_thrown σ 0)) H := hP
  refine lv_aload_n X.1 X.2.1 zd_R_stands_5 rfl (lv_at hl 0 rfl) ?_
  refine lv_iload_n X.1 X.2.1 zd_R_stands_6 rfl (lv_at hl 1 rfl) ?_
  refine z_callVi (As := [.int x]) (rest := []) (q0 := 0) (ci := 4) X hml (r_isTarget l K G A hD (p_mR_thrown σ 0) x) (zk_R_82 X.2.2.2.1 (z_rm (by omega) (by decide))) rfl rfl rfl hP hS rfl hl.1 rfl (Nat.le_of_ble_eq_true rfl) zd_R_stands_7 ⟨Nat.zero_le _, Nat.zero_le _⟩ (fun H locs hP hS => ?_)
  refine lv_if_eq (tgt := 22) X.1 X.2.1 zd_R_stands_10 (by decide) (fun _ => ?_) (fun h9 => absurd (by show nI (cHas (mR_targets σ) x) = 0; rw [hx]; rfl) h9)
  refine lv_iconst (v := -1) X.1 X.2.1 zd_R_stands_22 (by decide) ?_
  exact z_iret X.1 X.2.1 hr hlocks rfl rfl hP hS zd_R_stands_23

set_option maxHeartbeats 4000000 in
set_option maxRecDepth 100000 in
/-- stands -/
theorem r_stands_1 (l : Launch) (K : zK) (G : Nat → Nat) (A : Nat → Prop) (hD : ∀ σ, va_D A (mW K G σ)) (σ : mS) (n : Nat) (hB : mB σ) (hn : n < mR_targets σ) : zMet l K A zy_R_stands zws_R_stands 1 [.ref (G 0), .int (nI n)] (mW K G σ) (mW K G (p_mR_thrown σ 0)) (some (.int (nI (mR_standsFor σ n)))) := by
  have hBo := hB.1
  refine z_entry (by decide) (Nat.le_of_ble_eq_true rfl) ?_
  intro p e s m below meth c ls X hr hml hlocks hP hl
  have hS : va_S A s.heap s.heap [] := va_S.rf
  have hl : lv_has ls 2 [(0, .ref (G 0)), (1, .int (nI n))] := hl
  refine lv_aload_n X.1 X.2.1 zd_R_stands_0 rfl (lv_at hl 0 rfl) ?_
  refine lv_iconst (v := nI 0) X.1 X.2.1 zd_R_stands_1 (by decide) ?_
  refine s_mR_thrown X hD hP hS zd_R_stands_2 (fun H locs hP hS => ?_)
  have hP : va_P K.1 zcl (mW K G (p_mR_thrown σ 0)) H := hP
  refine lv_aload_n X.1 X.2.1 zd_R_stands_5 rfl (lv_at hl 0 rfl) ?_
  refine lv_iload_n X.1 X.2.1 zd_R_stands_6 rfl (lv_at hl 1 rfl) ?_
  refine z_callVi (As := [.int (nI n)]) (rest := []) (q0 := 0) (ci := 4) X hml (r_isTarget l K G A hD (p_mR_thrown σ 0) (nI n)) (zk_R_82 X.2.2.2.1 (z_rm (by omega) (by decide))) rfl rfl rfl hP hS rfl hl.1 rfl (Nat.le_of_ble_eq_true rfl) zd_R_stands_7 ⟨Nat.zero_le _, Nat.zero_le _⟩ (fun H locs hP hS => ?_)
  refine lv_if_eq (tgt := 22) X.1 X.2.1 zd_R_stands_10 (by decide) (fun h9 => absurd h9 (by show ¬ nI (cHas (mR_targets σ) _) = 0; rw [cHas_y hn (by omega)]; decide)) (fun _ => ?_)
  refine lv_aload_n X.1 X.2.1 zd_R_stands_13 rfl (lv_at hl 0 rfl) ?_
  refine g_mR_standsFor X hP zd_R_stands_14 ?_
  refine lv_iload_n X.1 X.2.1 zd_R_stands_17 rfl (lv_at hl 1 rfl) ?_
  refine l_mR_standsFor X hP (by omega) zd_R_stands_18 ?_
  refine z_top (y := (nI (mR_standsFor σ n))) rfl ?_
  refine lv_goto (tgt := 23) X.1 X.2.1 zd_R_stands_19 (by decide) ?_
  exact z_iret X.1 X.2.1 hr hlocks rfl rfl hP hS zd_R_stands_23

set_option maxHeartbeats 4000000 in
set_option maxRecDepth 100000 in
/-- hasTouched's inner loop -/
theorem q_R_hasTouched_i {p : Program} {e : Env} {s : State} {m : MethodId} {args : Array Value} {below : List Frame} {meth : Method} {c : Code} {Q : State → Prop} (l : Launch) (K : zK) (G : Nat → Nat) (A : Nat → Prop) (hD : ∀ σ, va_D A (mW K G σ)) (X : zFx K zR_R zb_R_hasTouched p s m args c) (hr : meth.sig.returnType = (some .boolean)) (hml : c.maxLocals = 5) (hlocks : meth.locks = false) (σ : mS) (t z h : Nat) (ht : t < 20) (hz : z < 3) (hh : h ≤ 1) (hB : mB σ) (hT1 : ∀ q, mR_touched σ q ≤ 1) (kont : ∀ (H : Heap) (locs : List Loc) (ls : Array Slot), va_P K.1 zcl (mW K G σ) H → va_S A s.heap H locs → lv_has ls 5 [(2, .int (nI (mHi σ t z h (mR_rowSize σ (3 * t + z))))), (3, .int (nI z)), (0, .ref (G 0)), (1, .int (nI t))] → W p l e (zrm 0) s m args below meth c H locs 0 0 Q (F0 m 72 ls [])) : ∀ (j i : Nat), i + j = mR_rowSize σ (3 * t + z) → ∀ (H : Heap) (locs : List Loc) (ls : Array Slot), va_P K.1 zcl (mW K G σ) H → va_S A s.heap H locs → lv_has ls 5 [(4, .int (nI i)), (2, .int (nI (mHi σ t z h i))), (3, .int (nI z)), (0, .ref (G 0)), (1, .int (nI t))] → W p l e (zrm 0) s m args below meth c H locs 0 0 Q (F0 m 12 ls []) := by
  intro j
  induction j with
  | zero =>
    intro i hi H locs ls hP hS hl
    have hle := mHi_le (σ := σ) (t := t) (z := z) hh i
    have hr4 := hB.2.2.2.2.1 (3 * t + z)
    have hrw := hB.2.2.2.1 (12 * t + 4 * z + i)
    have hst := hB.2.2.1 (mR_row σ (12 * t + 4 * z + i))
    have htc := hT1 (mR_standsFor σ (mR_row σ (12 * t + 4 * z + i)))
    refine lv_iload X.1 X.2.1 zd_R_hasTouched_12 (lv_at hl 0 rfl) ?_
    refine lv_aload_n X.1 X.2.1 zd_R_hasTouched_14 rfl (lv_at hl 3 rfl) ?_
    refine g_mR_rowSize X hP zd_R_hasTouched_15 ?_
    refine lv_iconst (v := nI 3) X.1 X.2.1 zd_R_hasTouched_18 (by decide) ?_
    refine lv_iload_n X.1 X.2.1 zd_R_hasTouched_19 rfl (lv_at hl 4 rfl) ?_
    refine lv_imul X.1 X.2.1 zd_R_hasTouched_20 ?_
    refine z_top (pk_mul _ _) ?_
    refine lv_iload_n X.1 X.2.1 zd_R_hasTouched_21 rfl (lv_at hl 2 rfl) ?_
    refine lv_iadd X.1 X.2.1 zd_R_hasTouched_22 ?_
    refine z_top (nI_add _ _) ?_
    refine l_mR_rowSize X hP (by omega) zd_R_hasTouched_23 ?_
    refine lv_icmp_ge (tgt := 72) X.1 X.2.1 zd_R_hasTouched_24 (by decide) (fun _ => ?_) (fun h9 => absurd (by rw [nI_leI (by omega) (by omega)]; omega) h9)
    exact kont H locs ls hP hS (by have h9 := hl; rw [show i = mR_rowSize σ (3 * t + z) by omega] at h9; exact lv_sub h9 [1, 2, 3, 4] rfl)
  | succ j ih =>
    intro i hi H locs ls hP hS hl
    have hle := mHi_le (σ := σ) (t := t) (z := z) hh i
    have hr4 := hB.2.2.2.2.1 (3 * t + z)
    have hrw := hB.2.2.2.1 (12 * t + 4 * z + i)
    have hst := hB.2.2.1 (mR_row σ (12 * t + 4 * z + i))
    have htc := hT1 (mR_standsFor σ (mR_row σ (12 * t + 4 * z + i)))
    refine lv_iload X.1 X.2.1 zd_R_hasTouched_12 (lv_at hl 0 rfl) ?_
    refine lv_aload_n X.1 X.2.1 zd_R_hasTouched_14 rfl (lv_at hl 3 rfl) ?_
    refine g_mR_rowSize X hP zd_R_hasTouched_15 ?_
    refine lv_iconst (v := nI 3) X.1 X.2.1 zd_R_hasTouched_18 (by decide) ?_
    refine lv_iload_n X.1 X.2.1 zd_R_hasTouched_19 rfl (lv_at hl 4 rfl) ?_
    refine lv_imul X.1 X.2.1 zd_R_hasTouched_20 ?_
    refine z_top (pk_mul _ _) ?_
    refine lv_iload_n X.1 X.2.1 zd_R_hasTouched_21 rfl (lv_at hl 2 rfl) ?_
    refine lv_iadd X.1 X.2.1 zd_R_hasTouched_22 ?_
    refine z_top (nI_add _ _) ?_
    refine l_mR_rowSize X hP (by omega) zd_R_hasTouched_23 ?_
    refine lv_icmp_ge (tgt := 72) X.1 X.2.1 zd_R_hasTouched_24 (by decide) (fun h9 => absurd h9 (by rw [nI_leI (by omega) (by omega)]; omega)) (fun _ => ?_)
    refine lv_iload_n X.1 X.2.1 zd_R_hasTouched_27 rfl (lv_at hl 1 rfl) ?_
    refine lv_if_ne (tgt := 60) X.1 X.2.1 zd_R_hasTouched_28 (by decide) (fun c1 => ?_) (fun c1 => ?_)
    · rw [z_eq0 (by omega)] at c1
      refine lv_iconst (v := nI 1) X.1 X.2.1 zd_R_hasTouched_60 (by decide) ?_
      refine lv_goto (tgt := 65) X.1 X.2.1 zd_R_hasTouched_61 (by decide) ?_
      refine lv_istore_n (lv' := [(2, .int (nI 1)), (4, .int (nI i)), (3, .int (nI z)), (0, .ref (G 0)), (1, .int (nI t))]) X.1 X.2.1 zd_R_hasTouched_65 rfl hl (by decide) rfl (fun ls hl => ?_)
      refine lv_iinc (v := nI (i + 1)) (lv' := [(4, .int (nI (i + 1))), (2, .int (nI 1)), (3, .int (nI z)), (0, .ref (G 0)), (1, .int (nI t))]) X.1 X.2.1 zd_R_hasTouched_66 hl (k := 1) rfl (nI_1 _) (by decide) rfl (fun ls hl => ?_)
      refine lv_goto (tgt := 12) X.1 X.2.1 zd_R_hasTouched_69 (by decide) ?_
      exact ih (i + 1) (by omega) H locs ls hP hS (by rw [show mHi σ t z h (i + 1) = 1 from (by rw [mHi]; simp [*])]; exact lv_sub hl [0, 1, 2, 3, 4] rfl)
    · rw [z_eq0 (by omega)] at c1
      refine lv_aload_n X.1 X.2.1 zd_R_hasTouched_31 rfl (lv_at hl 3 rfl) ?_
      refine g_mR_touched X hP zd_R_hasTouched_32 ?_
      refine lv_aload_n X.1 X.2.1 zd_R_hasTouched_35 rfl (lv_at hl 3 rfl) ?_
      refine g_mR_standsFor X hP zd_R_hasTouched_36 ?_
      refine lv_aload_n X.1 X.2.1 zd_R_hasTouched_39 rfl (lv_at hl 3 rfl) ?_
      refine g_mR_row X hP zd_R_hasTouched_40 ?_
      refine lv_bipush (v := nI 12) X.1 X.2.1 zd_R_hasTouched_43 (by decide) ?_
      refine lv_iload_n X.1 X.2.1 zd_R_hasTouched_45 rfl (lv_at hl 4 rfl) ?_
      refine lv_imul X.1 X.2.1 zd_R_hasTouched_46 ?_
      refine z_top (pk_mul _ _) ?_
      refine lv_iconst (v := nI 4) X.1 X.2.1 zd_R_hasTouched_47 (by decide) ?_
      refine lv_iload_n X.1 X.2.1 zd_R_hasTouched_48 rfl (lv_at hl 2 rfl) ?_
      refine lv_imul X.1 X.2.1 zd_R_hasTouched_49 ?_
      refine z_top (pk_mul _ _) ?_
      refine lv_iadd X.1 X.2.1 zd_R_hasTouched_50 ?_
      refine z_top (nI_add _ _) ?_
      refine lv_iload X.1 X.2.1 zd_R_hasTouched_51 (lv_at hl 0 rfl) ?_
      refine lv_iadd X.1 X.2.1 zd_R_hasTouched_53 ?_
      refine z_top (nI_add _ _) ?_
      refine l_mR_row X hP (by omega) zd_R_hasTouched_54 ?_
      refine l_mR_standsFor X hP (by omega) zd_R_hasTouched_55 ?_
      refine l_mR_touched X hP (by omega) zd_R_hasTouched_56 ?_
      refine lv_if_eq (tgt := 64) X.1 X.2.1 zd_R_hasTouched_57 (by decide) (fun c2 => ?_) (fun c2 => ?_)
      · rw [z_eq0 (by omega)] at c2
        refine lv_iconst (v := nI 0) X.1 X.2.1 zd_R_hasTouched_64 (by decide) ?_
        refine lv_istore_n (lv' := [(2, .int (nI 0)), (4, .int (nI i)), (3, .int (nI z)), (0, .ref (G 0)), (1, .int (nI t))]) X.1 X.2.1 zd_R_hasTouched_65 rfl hl (by decide) rfl (fun ls hl => ?_)
        refine lv_iinc (v := nI (i + 1)) (lv' := [(4, .int (nI (i + 1))), (2, .int (nI 0)), (3, .int (nI z)), (0, .ref (G 0)), (1, .int (nI t))]) X.1 X.2.1 zd_R_hasTouched_66 hl (k := 1) rfl (nI_1 _) (by decide) rfl (fun ls hl => ?_)
        refine lv_goto (tgt := 12) X.1 X.2.1 zd_R_hasTouched_69 (by decide) ?_
        exact ih (i + 1) (by omega) H locs ls hP hS (by rw [show mHi σ t z h (i + 1) = 0 from (by rw [mHi]; simp [*])]; exact lv_sub hl [0, 1, 2, 3, 4] rfl)
      · rw [z_eq0 (by omega)] at c2
        refine lv_iconst (v := nI 1) X.1 X.2.1 zd_R_hasTouched_60 (by decide) ?_
        refine lv_goto (tgt := 65) X.1 X.2.1 zd_R_hasTouched_61 (by decide) ?_
        refine lv_istore_n (lv' := [(2, .int (nI 1)), (4, .int (nI i)), (3, .int (nI z)), (0, .ref (G 0)), (1, .int (nI t))]) X.1 X.2.1 zd_R_hasTouched_65 rfl hl (by decide) rfl (fun ls hl => ?_)
        refine lv_iinc (v := nI (i + 1)) (lv' := [(4, .int (nI (i + 1))), (2, .int (nI 1)), (3, .int (nI z)), (0, .ref (G 0)), (1, .int (nI t))]) X.1 X.2.1 zd_R_hasTouched_66 hl (k := 1) rfl (nI_1 _) (by decide) rfl (fun ls hl => ?_)
        refine lv_goto (tgt := 12) X.1 X.2.1 zd_R_hasTouched_69 (by decide) ?_
        exact ih (i + 1) (by omega) H locs ls hP hS (by rw [show mHi σ t z h (i + 1) = 1 from (by rw [mHi]; simp [*])]; exact lv_sub hl [0, 1, 2, 3, 4] rfl)

set_option maxHeartbeats 4000000 in
set_option maxRecDepth 100000 in
/-- hasTouched's outer loop -/
theorem q_R_hasTouched {p : Program} {e : Env} {s : State} {m : MethodId} {args : Array Value} {below : List Frame} {meth : Method} {c : Code} (l : Launch) (K : zK) (G : Nat → Nat) (A : Nat → Prop) (hD : ∀ σ, va_D A (mW K G σ)) (X : zFx K zR_R zb_R_hasTouched p s m args c) (hr : meth.sig.returnType = (some .boolean)) (hml : c.maxLocals = 5) (hlocks : meth.locks = false) (σ : mS) (t : Nat) (ht : t < 20) (hB : mB σ) (hT1 : ∀ q, mR_touched σ q ≤ 1) : ∀ (j z : Nat), z + j = 3 → ∀ (H : Heap) (locs : List Loc) (ls : Array Slot), va_P K.1 zcl (mW K G σ) H → va_S A s.heap H locs → lv_has ls 5 [(3, .int (nI z)), (2, .int (nI (mHo σ t z))), (0, .ref (G 0)), (1, .int (nI t))] → W p l e (zrm 0) s m args below meth c H locs 0 0 (MQ below (zPost K A (mW K G σ) (some (.int (nI (mHo σ t 3))))) args s 0 0 A) (F0 m 4 ls []) := by
  intro j
  induction j with
  | zero =>
    intro z hi H locs ls hP hS hl
    have hle := mHo_le σ t z
    refine lv_iload_n X.1 X.2.1 zd_R_hasTouched_4 rfl (lv_at hl 0 rfl) ?_
    refine lv_iconst (v := nI 3) X.1 X.2.1 zd_R_hasTouched_5 (by decide) ?_
    refine lv_icmp_ge (tgt := 78) X.1 X.2.1 zd_R_hasTouched_6 (by decide) (fun _ => ?_) (fun h9 => absurd (by rw [nI_leI (by omega) (by omega)]; omega) h9)
    refine lv_iload_n X.1 X.2.1 zd_R_hasTouched_78 rfl (lv_at hl 1 rfl) ?_
    exact z_zret X.1 X.2.1 hr hlocks (by rcases (show mHo σ t z = 0 ∨ mHo σ t z = 1 by omega) with h9 | h9 <;> rw [h9] <;> decide) (by rw [show z = 3 by omega]) rfl hP hS zd_R_hasTouched_79
  | succ j ih =>
    intro z hi H locs ls hP hS hl
    have hle := mHo_le σ t z
    refine lv_iload_n X.1 X.2.1 zd_R_hasTouched_4 rfl (lv_at hl 0 rfl) ?_
    refine lv_iconst (v := nI 3) X.1 X.2.1 zd_R_hasTouched_5 (by decide) ?_
    refine lv_icmp_ge (tgt := 78) X.1 X.2.1 zd_R_hasTouched_6 (by decide) (fun h9 => absurd h9 (by rw [nI_leI (by omega) (by omega)]; omega)) (fun _ => ?_)
    refine lv_iconst (v := nI 0) X.1 X.2.1 zd_R_hasTouched_9 (by decide) ?_
    refine lv_istore (lv' := [(4, .int (nI 0)), (3, .int (nI z)), (2, .int (nI (mHo σ t z))), (0, .ref (G 0)), (1, .int (nI t))]) X.1 X.2.1 zd_R_hasTouched_10 hl (by decide) rfl (fun ls hl => ?_)
    refine q_R_hasTouched_i l K G A hD X hr hml hlocks σ t z _ ht (by omega) (mHo_le σ t z) hB hT1 (fun H locs ls hP hS hl => ?_) (mR_rowSize σ (3 * t + z)) 0 (Nat.zero_add _) H locs ls hP hS (lv_sub hl [0, 2, 1, 3, 4] rfl)
    refine lv_iinc (v := nI (z + 1)) (lv' := [(3, .int (nI (z + 1))), (2, .int (nI (mHi σ t z (mHo σ t z) (mR_rowSize σ (3 * t + z))))), (0, .ref (G 0)), (1, .int (nI t))]) X.1 X.2.1 zd_R_hasTouched_72 hl (k := 1) rfl (nI_1 _) (by decide) rfl (fun ls hl => ?_)
    refine lv_goto (tgt := 4) X.1 X.2.1 zd_R_hasTouched_75 (by decide) ?_
    exact ih (z + 1) (by omega) H locs ls hP hS (lv_sub hl [0, 1, 2, 3] rfl)

set_option maxHeartbeats 4000000 in
set_option maxRecDepth 100000 in
/-- hasTouched(t) -/
theorem r_hasTouched (l : Launch) (K : zK) (G : Nat → Nat) (A : Nat → Prop) (hD : ∀ σ, va_D A (mW K G σ)) (σ : mS) (t : Nat) (ht : t < 20) (hB : mB σ) (hT1 : ∀ q, mR_touched σ q ≤ 1) : zMet l K A zy_R_hasTouched zws_R_hasTouched 0 [.ref (G 0), .int (nI t)] (mW K G σ) (mW K G σ) (some (.int (nI (mHo σ t 3)))) := by
  refine z_entry (by decide) (Nat.le_of_ble_eq_true rfl) ?_
  intro p e s m below meth c ls X hr hml hlocks hP hl
  have hS : va_S A s.heap s.heap [] := va_S.rf
  have hl : lv_has ls 5 [(0, .ref (G 0)), (1, .int (nI t))] := hl
  refine lv_iconst (v := nI 0) X.1 X.2.1 zd_R_hasTouched_0 (by decide) ?_
  refine lv_istore_n (lv' := [(2, .int (nI 0)), (0, .ref (G 0)), (1, .int (nI t))]) X.1 X.2.1 zd_R_hasTouched_1 rfl hl (by decide) rfl (fun ls hl => ?_)
  refine lv_iconst (v := nI 0) X.1 X.2.1 zd_R_hasTouched_2 (by decide) ?_
  refine lv_istore_n (lv' := [(3, .int (nI 0)), (2, .int (nI 0)), (0, .ref (G 0)), (1, .int (nI t))]) X.1 X.2.1 zd_R_hasTouched_3 rfl hl (by decide) rfl (fun ls hl => ?_)
  exact q_R_hasTouched l K G A hD X hr hml hlocks σ t ht hB hT1 (3) 0 (Nat.zero_add _) s.heap [] ls hP hS (lv_sub hl [0, 1, 2, 3] rfl)

set_option maxHeartbeats 4000000 in
set_option maxRecDepth 100000 in
/-- forgetTarget's first loop -/
theorem q_R_forgetTarget_k {p : Program} {e : Env} {s : State} {m : MethodId} {args : Array Value} {below : List Frame} {meth : Method} {c : Code} {Q : State → Prop} (l : Launch) (K : zK) (G : Nat → Nat) (A : Nat → Prop) (hD : ∀ σ, va_D A (mW K G σ)) (X : zFx K zR_R zb_R_forgetTarget p s m args c) (hr : meth.sig.returnType = none) (hml : c.maxLocals = 3) (hlocks : meth.locks = false) (σ : mS) (t : Nat) (ht : t < 20) (kont : ∀ (H : Heap) (locs : List Loc) (ls : Array Slot), va_P K.1 zcl (mW K G (mFK σ t 128)) H → va_S A s.heap H locs → lv_has ls 3 [(0, .ref (G 0)), (1, .int (nI t))] → W p l e (zrm 0) s m args below meth c H locs 0 0 Q (F0 m 28 ls [])) : ∀ (j i : Nat), i + j = 128 → ∀ (τ : mS), τ = mFK σ t i → ∀ (H : Heap) (locs : List Loc) (ls : Array Slot), va_P K.1 zcl (mW K G τ) H → va_S A s.heap H locs → lv_has ls 3 [(2, .int (nI i)), (0, .ref (G 0)), (1, .int (nI t))] → W p l e (zrm 0) s m args below meth c H locs 0 0 Q (F0 m 2 ls []) := by
  intro j
  induction j with
  | zero =>
    intro i hi τ hτ H locs ls hP hS hl
    refine lv_iload_n X.1 X.2.1 zd_R_forgetTarget_2 rfl (lv_at hl 0 rfl) ?_
    refine lv_sipush (v := nI 128) X.1 X.2.1 zd_R_forgetTarget_3 (by decide) ?_
    refine lv_icmp_ge (tgt := 28) X.1 X.2.1 zd_R_forgetTarget_6 (by decide) (fun _ => ?_) (fun h9 => absurd (by rw [nI_leI (by omega) (by omega)]; omega) h9)
    exact kont H locs ls (by have h9 := hP; rw [hτ, show i = 128 by omega] at h9; exact h9) hS (by have h9 := hl; rw [show i = 128 by omega] at h9; exact lv_sub h9 [1, 2] rfl)
  | succ j ih =>
    intro i hi τ hτ H locs ls hP hS hl
    refine lv_iload_n X.1 X.2.1 zd_R_forgetTarget_2 rfl (lv_at hl 0 rfl) ?_
    refine lv_sipush (v := nI 128) X.1 X.2.1 zd_R_forgetTarget_3 (by decide) ?_
    refine lv_icmp_ge (tgt := 28) X.1 X.2.1 zd_R_forgetTarget_6 (by decide) (fun h9 => absurd h9 (by rw [nI_leI (by omega) (by omega)]; omega)) (fun _ => ?_)
    refine lv_aload_n X.1 X.2.1 zd_R_forgetTarget_9 rfl (lv_at hl 1 rfl) ?_
    refine g_mR_known X hP zd_R_forgetTarget_10 ?_
    refine lv_sipush (v := nI 128) X.1 X.2.1 zd_R_forgetTarget_13 (by decide) ?_
    refine lv_iload_n X.1 X.2.1 zd_R_forgetTarget_16 rfl (lv_at hl 2 rfl) ?_
    refine lv_imul X.1 X.2.1 zd_R_forgetTarget_17 ?_
    refine z_top (pk_mul _ _) ?_
    refine lv_iload_n X.1 X.2.1 zd_R_forgetTarget_18 rfl (lv_at hl 0 rfl) ?_
    refine lv_iadd X.1 X.2.1 zd_R_forgetTarget_19 ?_
    refine z_top (nI_add _ _) ?_
    refine lv_iconst (v := nI 0) X.1 X.2.1 zd_R_forgetTarget_20 (by decide) ?_
    refine s_mR_known X hD hP hS (by omega) zd_R_forgetTarget_21 (fun H locs hP hS => ?_)
    have hP : va_P K.1 zcl (mW K G (p_mR_known τ (upN (mR_known τ) ((128 * t) + i) 0))) H := hP
    refine lv_iinc (v := nI (i + 1)) (lv' := [(2, .int (nI (i + 1))), (0, .ref (G 0)), (1, .int (nI t))]) X.1 X.2.1 zd_R_forgetTarget_22 hl (k := 0) rfl (nI_1 _) (by decide) rfl (fun ls hl => ?_)
    refine lv_goto (tgt := 2) X.1 X.2.1 zd_R_forgetTarget_25 (by decide) ?_
    exact ih (i + 1) (by omega) _ (by rw [hτ]; rfl) H locs ls hP hS (lv_sub hl [0, 1, 2] rfl)

set_option maxHeartbeats 4000000 in
set_option maxRecDepth 100000 in
/-- forgetTarget's second loop -/
theorem q_R_forgetTarget_m {p : Program} {e : Env} {s : State} {m : MethodId} {args : Array Value} {below : List Frame} {meth : Method} {c : Code} (l : Launch) (K : zK) (G : Nat → Nat) (A : Nat → Prop) (hD : ∀ σ, va_D A (mW K G σ)) (X : zFx K zR_R zb_R_forgetTarget p s m args c) (hr : meth.sig.returnType = none) (hml : c.maxLocals = 3) (hlocks : meth.locks = false) (σ : mS) (t : Nat) (ht : t < 20) : ∀ (j i : Nat), i + j = 10 → ∀ (τ : mS), τ = mFM σ t i → ∀ (H : Heap) (locs : List Loc) (ls : Array Slot), va_P K.1 zcl (mW K G τ) H → va_S A s.heap H locs → lv_has ls 3 [(2, .int (nI i)), (0, .ref (G 0)), (1, .int (nI t))] → W p l e (zrm 0) s m args below meth c H locs 0 0 (MQ below (zPost K A (mW K G (mFM σ t 10)) none) args s 0 0 A) (F0 m 30 ls []) := by
  intro j
  induction j with
  | zero =>
    intro i hi τ hτ H locs ls hP hS hl
    refine lv_iload_n X.1 X.2.1 zd_R_forgetTarget_30 rfl (lv_at hl 0 rfl) ?_
    refine lv_bipush (v := nI 10) X.1 X.2.1 zd_R_forgetTarget_31 (by decide) ?_
    refine lv_icmp_ge (tgt := 54) X.1 X.2.1 zd_R_forgetTarget_33 (by decide) (fun _ => ?_) (fun h9 => absurd (by rw [nI_leI (by omega) (by omega)]; omega) h9)
    exact z_vret X.1 X.2.1 hr hlocks (by rw [hτ, show i = 10 by omega]) hP hS zd_R_forgetTarget_54
  | succ j ih =>
    intro i hi τ hτ H locs ls hP hS hl
    refine lv_iload_n X.1 X.2.1 zd_R_forgetTarget_30 rfl (lv_at hl 0 rfl) ?_
    refine lv_bipush (v := nI 10) X.1 X.2.1 zd_R_forgetTarget_31 (by decide) ?_
    refine lv_icmp_ge (tgt := 54) X.1 X.2.1 zd_R_forgetTarget_33 (by decide) (fun h9 => absurd h9 (by rw [nI_leI (by omega) (by omega)]; omega)) (fun _ => ?_)
    refine lv_aload_n X.1 X.2.1 zd_R_forgetTarget_36 rfl (lv_at hl 1 rfl) ?_
    refine g_mR_madeBy X hP zd_R_forgetTarget_37 ?_
    refine lv_bipush (v := nI 10) X.1 X.2.1 zd_R_forgetTarget_40 (by decide) ?_
    refine lv_iload_n X.1 X.2.1 zd_R_forgetTarget_42 rfl (lv_at hl 2 rfl) ?_
    refine lv_imul X.1 X.2.1 zd_R_forgetTarget_43 ?_
    refine z_top (pk_mul _ _) ?_
    refine lv_iload_n X.1 X.2.1 zd_R_forgetTarget_44 rfl (lv_at hl 0 rfl) ?_
    refine lv_iadd X.1 X.2.1 zd_R_forgetTarget_45 ?_
    refine z_top (nI_add _ _) ?_
    refine lv_iconst (v := -1) X.1 X.2.1 zd_R_forgetTarget_46 (by decide) ?_
    refine s_mR_madeBy X hD hP hS (by omega) zd_R_forgetTarget_47 (fun H locs hP hS => ?_)
    have hP : va_P K.1 zcl (mW K G (p_mR_madeBy τ (upd (mR_madeBy τ) ((10 * t) + i) (-1)))) H := hP
    refine lv_iinc (v := nI (i + 1)) (lv' := [(2, .int (nI (i + 1))), (0, .ref (G 0)), (1, .int (nI t))]) X.1 X.2.1 zd_R_forgetTarget_48 hl (k := 0) rfl (nI_1 _) (by decide) rfl (fun ls hl => ?_)
    refine lv_goto (tgt := 30) X.1 X.2.1 zd_R_forgetTarget_51 (by decide) ?_
    exact ih (i + 1) (by omega) _ (by rw [hτ]; rfl) H locs ls hP hS (lv_sub hl [0, 1, 2] rfl)

set_option maxHeartbeats 4000000 in
set_option maxRecDepth 100000 in
/-- forgetTarget(t) -/
theorem r_forgetTarget (l : Launch) (K : zK) (G : Nat → Nat) (A : Nat → Prop) (hD : ∀ σ, va_D A (mW K G σ)) (σ : mS) (t : Nat) (ht : t < 20) : zMet l K A zy_R_forgetTarget zws_R_forgetTarget 0 [.ref (G 0), .int (nI t)] (mW K G σ) (mW K G (mForgetT σ t)) none := by
  refine z_entry (by decide) (Nat.le_of_ble_eq_true rfl) ?_
  intro p e s m below meth c ls X hr hml hlocks hP hl
  have hS : va_S A s.heap s.heap [] := va_S.rf
  have hl : lv_has ls 3 [(0, .ref (G 0)), (1, .int (nI t))] := hl
  refine lv_iconst (v := nI 0) X.1 X.2.1 zd_R_forgetTarget_0 (by decide) ?_
  refine lv_istore_n (lv' := [(2, .int (nI 0)), (0, .ref (G 0)), (1, .int (nI t))]) X.1 X.2.1 zd_R_forgetTarget_1 rfl hl (by decide) rfl (fun ls hl => ?_)
  refine q_R_forgetTarget_k l K G A hD X hr hml hlocks σ t ht (fun H locs ls hP hS hl => ?_) 128 0 rfl _ rfl s.heap [] ls hP hS (lv_sub hl [0, 1, 2] rfl)
  refine lv_iconst (v := nI 0) X.1 X.2.1 zd_R_forgetTarget_28 (by decide) ?_
  refine lv_istore_n (lv' := [(2, .int (nI 0)), (0, .ref (G 0)), (1, .int (nI t))]) X.1 X.2.1 zd_R_forgetTarget_29 rfl hl (by decide) rfl (fun ls hl => ?_)
  exact q_R_forgetTarget_m l K G A hD X hr hml hlocks (mFK σ t 128) t ht 10 0 rfl _ rfl H locs ls hP hS (lv_sub hl [0, 1, 2] rfl)

/-- what touching and forgetting leave as it was -/
def mSame (τ σ : mS) : Prop := mR_targets τ = mR_targets σ ∧ mR_aspects τ = mR_aspects σ ∧ mR_standsFor τ = mR_standsFor σ ∧ mR_row τ = mR_row σ ∧ mR_rowSize τ = mR_rowSize σ ∧ mR_needs τ = mR_needs σ ∧ mR_needMany τ = mR_needMany σ ∧ mR_kind τ = mR_kind σ ∧ mR_nameOf τ = mR_nameOf σ ∧ mR_value τ = mR_value σ ∧ mR_providers τ = mR_providers σ ∧ mR_along τ = mR_along σ ∧ mR_wants τ = mR_wants σ ∧ mR_gives τ = mR_gives σ
theorem mSame.rf (σ : mS) : mSame σ σ := ⟨rfl, rfl, rfl, rfl, rfl, rfl, rfl, rfl, rfl, rfl, rfl, rfl, rfl, rfl⟩
theorem mSame.tr {a b c : mS} (h1 : mSame a b) (h2 : mSame b c) : mSame a c := by
  obtain ⟨a1, a2, a3, a4, a5, a6, a7, a8, a9, a10, a11, a12, a13, a14⟩ := h1
  obtain ⟨b1, b2, b3, b4, b5, b6, b7, b8, b9, b10, b11, b12, b13, b14⟩ := h2
  exact ⟨a1.trans b1, a2.trans b2, a3.trans b3, a4.trans b4, a5.trans b5, a6.trans b6, a7.trans b7, a8.trans b8, a9.trans b9, a10.trans b10, a11.trans b11, a12.trans b12, a13.trans b13, a14.trans b14⟩
theorem mSame_touched (σ : mS) (f : Nat → Nat) : mSame (p_mR_touched σ f) σ := ⟨rfl, rfl, rfl, rfl, rfl, rfl, rfl, rfl, rfl, rfl, rfl, rfl, rfl, rfl⟩
theorem mSame_known (σ : mS) (f : Nat → Nat) : mSame (p_mR_known σ f) σ := ⟨rfl, rfl, rfl, rfl, rfl, rfl, rfl, rfl, rfl, rfl, rfl, rfl, rfl, rfl⟩
theorem mSame_madeBy (σ : mS) (f : Nat → Int32) : mSame (p_mR_madeBy σ f) σ := ⟨rfl, rfl, rfl, rfl, rfl, rfl, rfl, rfl, rfl, rfl, rfl, rfl, rfl, rfl⟩
theorem mB_same {τ σ : mS} (h : mSame τ σ) (hB : mB σ) : mB τ := by
  obtain ⟨a1, a2, a3, a4, a5, a6, a7, a8, a9, -⟩ := h
  unfold mB
  rw [a1, a2, a3, a4, a5, a6, a7, a8, a9]
  exact hB
theorem mFK_same (σ : mS) (t i : Nat) : mSame (mFK σ t i) σ := by
  induction i with
  | zero => exact mSame.rf σ
  | succ i ih => rw [mFK]; exact (mSame_known _ _).tr ih
theorem mFM_same (σ : mS) (t i : Nat) : mSame (mFM σ t i) σ := by
  induction i with
  | zero => exact mSame.rf σ
  | succ i ih => rw [mFM]; exact (mSame_madeBy _ _).tr ih
theorem mForgetT_same (σ : mS) (t : Nat) : mSame (mForgetT σ t) σ := (mFM_same _ _ _).tr (mFK_same _ _ _)
theorem mFF_same (σ : mS) (t u : Nat) : mSame (mFF σ t u) σ := by
  induction u with
  | zero => exact mSame.rf σ
  | succ u ih =>
    unfold mFF
    split
    · exact (mSame_touched _ _).tr ih
    · exact (mForgetT_same _ _).tr ((mSame_touched _ _).tr ih)
theorem mFK_touched (σ : mS) (t i : Nat) : mR_touched (mFK σ t i) = mR_touched σ := by
  induction i with
  | zero => rfl
  | succ i ih => rw [mFK]; exact ih
theorem mFM_touched (σ : mS) (t i : Nat) : mR_touched (mFM σ t i) = mR_touched σ := by
  induction i with
  | zero => rfl
  | succ i ih => rw [mFM]; exact ih
theorem mForgetT_touched (σ : mS) (t : Nat) : mR_touched (mForgetT σ t) = mR_touched σ := (mFM_touched _ _ _).trans (mFK_touched _ _ _)
theorem upN_le {f : Nat → Nat} {k x M : Nat} (h : ∀ q, f q ≤ M) (hx : x ≤ M) : ∀ q, upN f k x q ≤ M := by
  intro q
  unfold upN
  split
  · exact hx
  · exact h q
theorem mFF_touched (σ : mS) (t u : Nat) (h : ∀ q, mR_touched σ q ≤ 1) : ∀ q, mR_touched (mFF σ t u) q ≤ 1 := by
  induction u with
  | zero => exact h
  | succ u ih =>
    unfold mFF
    split
    · exact upN_le ih (by decide)
    · rw [mForgetT_touched]
      exact upN_le ih (by decide)

set_option maxHeartbeats 4000000 in
set_option maxRecDepth 100000 in
/-- forgetFrom's loop -/
theorem q_R_forgetFrom {p : Program} {e : Env} {s : State} {m : MethodId} {args : Array Value} {below : List Frame} {meth : Method} {c : Code} (l : Launch) (K : zK) (G : Nat → Nat) (A : Nat → Prop) (hD : ∀ σ, va_D A (mW K G σ)) (X : zFx K zR_R zb_R_forgetFrom p s m args c) (hr : meth.sig.returnType = none) (hml : c.maxLocals = 3) (hlocks : meth.locks = false) (σ : mS) (t : Nat) (ht : t < 20) (hB : mB σ) (hT0 : ∀ q, mR_touched σ q ≤ 1) : ∀ (j u : Nat), u + j = mR_targets σ → ∀ (τ : mS), τ = mFF σ t u → ∀ (H : Heap) (locs : List Loc) (ls : Array Slot), va_P K.1 zcl (mW K G τ) H → va_S A s.heap H locs → lv_has ls 3 [(2, .int (nI u)), (0, .ref (G 0)), (1, .int (nI t))] → W p l e (zrm 1) s m args below meth c H locs 0 0 (MQ below (zPost K A (mW K G (mFF σ t (mR_targets σ))) none) args s 0 0 A) (F0 m 2 ls []) := by
  intro j
  induction j with
  | zero =>
    intro u hi τ hτ H locs ls hP hS hl
    have hTA : mSame τ σ := by rw [hτ]; exact mFF_same σ t u
    have hoT := hTA.1
    have hBT := hB.1
    have hBt : mB τ := mB_same hTA hB
    have hT1 : ∀ q, mR_touched τ q ≤ 1 := by rw [hτ]; exact mFF_touched σ t u hT0
    have hst := hBt.2.2.1 u
    have hho := mHo_le τ u 3
    refine lv_iload_n X.1 X.2.1 zd_R_forgetFrom_2 rfl (lv_at hl 0 rfl) ?_
    refine lv_aload_n X.1 X.2.1 zd_R_forgetFrom_3 rfl (lv_at hl 1 rfl) ?_
    refine g_mR_targets X hP zd_R_forgetFrom_4 ?_
    refine z_top (congrArg nI hoT) ?_
    refine lv_icmp_ge (tgt := 64) X.1 X.2.1 zd_R_forgetFrom_7 (by decide) (fun _ => ?_) (fun h9 => absurd (by rw [nI_leI (by omega) (by omega)]; omega) h9)
    exact z_vret X.1 X.2.1 hr hlocks (by rw [hτ, show u = mR_targets σ by omega]) hP hS zd_R_forgetFrom_64
  | succ j ih =>
    intro u hi τ hτ H locs ls hP hS hl
    have hTA : mSame τ σ := by rw [hτ]; exact mFF_same σ t u
    have hoT := hTA.1
    have hBT := hB.1
    have hBt : mB τ := mB_same hTA hB
    have hT1 : ∀ q, mR_touched τ q ≤ 1 := by rw [hτ]; exact mFF_touched σ t u hT0
    have hst := hBt.2.2.1 u
    have hho := mHo_le τ u 3
    refine lv_iload_n X.1 X.2.1 zd_R_forgetFrom_2 rfl (lv_at hl 0 rfl) ?_
    refine lv_aload_n X.1 X.2.1 zd_R_forgetFrom_3 rfl (lv_at hl 1 rfl) ?_
    refine g_mR_targets X hP zd_R_forgetFrom_4 ?_
    refine z_top (congrArg nI hoT) ?_
    refine lv_icmp_ge (tgt := 64) X.1 X.2.1 zd_R_forgetFrom_7 (by decide) (fun h9 => absurd h9 (by rw [nI_leI (by omega) (by omega)]; omega)) (fun _ => ?_)
    refine lv_aload_n X.1 X.2.1 zd_R_forgetFrom_10 rfl (lv_at hl 1 rfl) ?_
    refine g_mR_touched X hP zd_R_forgetFrom_11 ?_
    refine lv_iload_n X.1 X.2.1 zd_R_forgetFrom_14 rfl (lv_at hl 0 rfl) ?_
    refine lv_iload_n X.1 X.2.1 zd_R_forgetFrom_15 rfl (lv_at hl 0 rfl) ?_
    refine lv_iload_n X.1 X.2.1 zd_R_forgetFrom_16 rfl (lv_at hl 2 rfl) ?_
    refine lv_icmp_eq (tgt := 38) X.1 X.2.1 zd_R_forgetFrom_17 (by decide) (fun c1 => ?_) (fun c1 => ?_)
    · rw [nI_eq (by omega) (by omega)] at c1
      refine lv_iconst (v := nI 1) X.1 X.2.1 zd_R_forgetFrom_38 (by decide) ?_
      refine lv_goto (tgt := 43) X.1 X.2.1 zd_R_forgetFrom_39 (by decide) ?_
      refine s_mR_touched X hD hP hS (by omega) (by omega) zd_R_forgetFrom_43 (fun H locs hP hS => ?_)
      have hP : va_P K.1 zcl (mW K G (p_mR_touched τ (upN (mR_touched τ) u 1))) H := hP
      refine lv_aload_n X.1 X.2.1 zd_R_forgetFrom_44 rfl (lv_at hl 1 rfl) ?_
      refine g_mR_touched X hP zd_R_forgetFrom_45 ?_
      refine lv_iload_n X.1 X.2.1 zd_R_forgetFrom_48 rfl (lv_at hl 0 rfl) ?_
      refine l_mR_touched X hP (by omega) zd_R_forgetFrom_49 ?_
      refine z_top (y := (nI ((upN (mR_touched τ) u 1) u))) rfl ?_
      refine lv_if_eq (tgt := 58) X.1 X.2.1 zd_R_forgetFrom_50 (by decide) (fun h9 => absurd h9 (by show ¬ nI (upN (mR_touched τ) u 1 u) = 0; simp [upN]; decide)) (fun _ => ?_)
      refine lv_aload_n X.1 X.2.1 zd_R_forgetFrom_53 rfl (lv_at hl 1 rfl) ?_
      refine lv_iload_n X.1 X.2.1 zd_R_forgetFrom_54 rfl (lv_at hl 0 rfl) ?_
      refine z_callVv (As := [.int (nI u)]) (rest := []) (q0 := 0) (ci := 4) X hml (r_forgetTarget l K G A hD (p_mR_touched τ (upN (mR_touched τ) u 1)) u (by omega)) (zk_R_89 X.2.2.2.1 (z_rm (by omega) (by decide))) rfl rfl rfl hP hS rfl hl.1 rfl (Nat.le_of_ble_eq_true rfl) zd_R_forgetFrom_55 ⟨Nat.zero_le _, Nat.zero_le _⟩ (fun H locs hP hS => ?_)
      refine lv_iinc (v := nI (u + 1)) (lv' := [(2, .int (nI (u + 1))), (0, .ref (G 0)), (1, .int (nI t))]) X.1 X.2.1 zd_R_forgetFrom_58 hl (k := 0) rfl (nI_1 _) (by decide) rfl (fun ls hl => ?_)
      refine lv_goto (tgt := 2) X.1 X.2.1 zd_R_forgetFrom_61 (by decide) ?_
      exact ih (u + 1) (by omega) _ (by rw [mFF, ← hτ]; simp [mTb, c1]) H locs ls hP hS (lv_sub hl [0, 1, 2] rfl)
    · rw [nI_eq (by omega) (by omega)] at c1
      refine lv_aload_n X.1 X.2.1 zd_R_forgetFrom_20 rfl (lv_at hl 1 rfl) ?_
      refine g_mR_standsFor X hP zd_R_forgetFrom_21 ?_
      refine lv_iload_n X.1 X.2.1 zd_R_forgetFrom_24 rfl (lv_at hl 0 rfl) ?_
      refine l_mR_standsFor X hP (by omega) zd_R_forgetFrom_25 ?_
      refine lv_iload_n X.1 X.2.1 zd_R_forgetFrom_26 rfl (lv_at hl 0 rfl) ?_
      refine lv_icmp_ne (tgt := 42) X.1 X.2.1 zd_R_forgetFrom_27 (by decide) (fun c2 => ?_) (fun c2 => ?_)
      · rw [nI_eq (by omega) (by omega)] at c2
        refine lv_iconst (v := nI 0) X.1 X.2.1 zd_R_forgetFrom_42 (by decide) ?_
        refine s_mR_touched X hD hP hS (by omega) (by omega) zd_R_forgetFrom_43 (fun H locs hP hS => ?_)
        have hP : va_P K.1 zcl (mW K G (p_mR_touched τ (upN (mR_touched τ) u 0))) H := hP
        refine lv_aload_n X.1 X.2.1 zd_R_forgetFrom_44 rfl (lv_at hl 1 rfl) ?_
        refine g_mR_touched X hP zd_R_forgetFrom_45 ?_
        refine lv_iload_n X.1 X.2.1 zd_R_forgetFrom_48 rfl (lv_at hl 0 rfl) ?_
        refine l_mR_touched X hP (by omega) zd_R_forgetFrom_49 ?_
        refine z_top (y := (nI ((upN (mR_touched τ) u 0) u))) rfl ?_
        refine lv_if_eq (tgt := 58) X.1 X.2.1 zd_R_forgetFrom_50 (by decide) (fun _ => ?_) (fun h9 => absurd (by show nI (upN (mR_touched τ) u 0 u) = 0; simp [upN]; decide) h9)
        refine lv_iinc (v := nI (u + 1)) (lv' := [(2, .int (nI (u + 1))), (0, .ref (G 0)), (1, .int (nI t))]) X.1 X.2.1 zd_R_forgetFrom_58 hl (k := 0) rfl (nI_1 _) (by decide) rfl (fun ls hl => ?_)
        refine lv_goto (tgt := 2) X.1 X.2.1 zd_R_forgetFrom_61 (by decide) ?_
        exact ih (u + 1) (by omega) _ (by rw [mFF, ← hτ]; simp [mTb, c1, c2]) H locs ls hP hS (lv_sub hl [0, 1, 2] rfl)
      · rw [nI_eq (by omega) (by omega)] at c2
        refine lv_aload_n X.1 X.2.1 zd_R_forgetFrom_30 rfl (lv_at hl 1 rfl) ?_
        refine lv_iload_n X.1 X.2.1 zd_R_forgetFrom_31 rfl (lv_at hl 0 rfl) ?_
        refine z_callVi (As := [.int (nI u)]) (rest := [.int (nI u), .ref (G 20)]) (q0 := 0) (ci := 4) X hml (r_hasTouched l K G A hD τ u (by omega) hBt hT1) (zk_R_86 X.2.2.2.1 (z_rm (by omega) (by decide))) rfl rfl rfl hP hS rfl hl.1 rfl (Nat.le_of_ble_eq_true rfl) zd_R_forgetFrom_32 ⟨Nat.zero_le _, Nat.zero_le _⟩ (fun H locs hP hS => ?_)
        refine lv_if_eq (tgt := 42) X.1 X.2.1 zd_R_forgetFrom_35 (by decide) (fun c3 => ?_) (fun c3 => ?_)
        · rw [z_eq0 (by omega)] at c3
          refine lv_iconst (v := nI 0) X.1 X.2.1 zd_R_forgetFrom_42 (by decide) ?_
          refine s_mR_touched X hD hP hS (by omega) (by omega) zd_R_forgetFrom_43 (fun H locs hP hS => ?_)
          have hP : va_P K.1 zcl (mW K G (p_mR_touched τ (upN (mR_touched τ) u 0))) H := hP
          refine lv_aload_n X.1 X.2.1 zd_R_forgetFrom_44 rfl (lv_at hl 1 rfl) ?_
          refine g_mR_touched X hP zd_R_forgetFrom_45 ?_
          refine lv_iload_n X.1 X.2.1 zd_R_forgetFrom_48 rfl (lv_at hl 0 rfl) ?_
          refine l_mR_touched X hP (by omega) zd_R_forgetFrom_49 ?_
          refine z_top (y := (nI ((upN (mR_touched τ) u 0) u))) rfl ?_
          refine lv_if_eq (tgt := 58) X.1 X.2.1 zd_R_forgetFrom_50 (by decide) (fun _ => ?_) (fun h9 => absurd (by show nI (upN (mR_touched τ) u 0 u) = 0; simp [upN]; decide) h9)
          refine lv_iinc (v := nI (u + 1)) (lv' := [(2, .int (nI (u + 1))), (0, .ref (G 0)), (1, .int (nI t))]) X.1 X.2.1 zd_R_forgetFrom_58 hl (k := 0) rfl (nI_1 _) (by decide) rfl (fun ls hl => ?_)
          refine lv_goto (tgt := 2) X.1 X.2.1 zd_R_forgetFrom_61 (by decide) ?_
          exact ih (u + 1) (by omega) _ (by rw [mFF, ← hτ]; simp [mTb, c1, c2, c3]) H locs ls hP hS (lv_sub hl [0, 1, 2] rfl)
        · rw [z_eq0 (by omega)] at c3
          refine lv_iconst (v := nI 1) X.1 X.2.1 zd_R_forgetFrom_38 (by decide) ?_
          refine lv_goto (tgt := 43) X.1 X.2.1 zd_R_forgetFrom_39 (by decide) ?_
          refine s_mR_touched X hD hP hS (by omega) (by omega) zd_R_forgetFrom_43 (fun H locs hP hS => ?_)
          have hP : va_P K.1 zcl (mW K G (p_mR_touched τ (upN (mR_touched τ) u 1))) H := hP
          refine lv_aload_n X.1 X.2.1 zd_R_forgetFrom_44 rfl (lv_at hl 1 rfl) ?_
          refine g_mR_touched X hP zd_R_forgetFrom_45 ?_
          refine lv_iload_n X.1 X.2.1 zd_R_forgetFrom_48 rfl (lv_at hl 0 rfl) ?_
          refine l_mR_touched X hP (by omega) zd_R_forgetFrom_49 ?_
          refine z_top (y := (nI ((upN (mR_touched τ) u 1) u))) rfl ?_
          refine lv_if_eq (tgt := 58) X.1 X.2.1 zd_R_forgetFrom_50 (by decide) (fun h9 => absurd h9 (by show ¬ nI (upN (mR_touched τ) u 1 u) = 0; simp [upN]; decide)) (fun _ => ?_)
          refine lv_aload_n X.1 X.2.1 zd_R_forgetFrom_53 rfl (lv_at hl 1 rfl) ?_
          refine lv_iload_n X.1 X.2.1 zd_R_forgetFrom_54 rfl (lv_at hl 0 rfl) ?_
          refine z_callVv (As := [.int (nI u)]) (rest := []) (q0 := 0) (ci := 4) X hml (r_forgetTarget l K G A hD (p_mR_touched τ (upN (mR_touched τ) u 1)) u (by omega)) (zk_R_89 X.2.2.2.1 (z_rm (by omega) (by decide))) rfl rfl rfl hP hS rfl hl.1 rfl (Nat.le_of_ble_eq_true rfl) zd_R_forgetFrom_55 ⟨Nat.zero_le _, Nat.zero_le _⟩ (fun H locs hP hS => ?_)
          refine lv_iinc (v := nI (u + 1)) (lv' := [(2, .int (nI (u + 1))), (0, .ref (G 0)), (1, .int (nI t))]) X.1 X.2.1 zd_R_forgetFrom_58 hl (k := 0) rfl (nI_1 _) (by decide) rfl (fun ls hl => ?_)
          refine lv_goto (tgt := 2) X.1 X.2.1 zd_R_forgetFrom_61 (by decide) ?_
          exact ih (u + 1) (by omega) _ (by rw [mFF, ← hτ]; simp [mTb, c1, c2, c3]) H locs ls hP hS (lv_sub hl [0, 1, 2] rfl)

set_option maxHeartbeats 4000000 in
set_option maxRecDepth 100000 in
/-- forgetFrom(t) -/
theorem r_forgetFrom (l : Launch) (K : zK) (G : Nat → Nat) (A : Nat → Prop) (hD : ∀ σ, va_D A (mW K G σ)) (σ : mS) (t : Nat) (ht : t < 20) (hB : mB σ) (hT0 : ∀ q, mR_touched σ q ≤ 1) : zMet l K A zy_R_forgetFrom zws_R_forgetFrom 1 [.ref (G 0), .int (nI t)] (mW K G σ) (mW K G (mFF σ t (mR_targets σ))) none := by
  refine z_entry (by decide) (Nat.le_of_ble_eq_true rfl) ?_
  intro p e s m below meth c ls X hr hml hlocks hP hl
  have hS : va_S A s.heap s.heap [] := va_S.rf
  have hl : lv_has ls 3 [(0, .ref (G 0)), (1, .int (nI t))] := hl
  refine lv_iconst (v := nI 0) X.1 X.2.1 zd_R_forgetFrom_0 (by decide) ?_
  refine lv_istore_n (lv' := [(2, .int (nI 0)), (0, .ref (G 0)), (1, .int (nI t))]) X.1 X.2.1 zd_R_forgetFrom_1 rfl hl (by decide) rfl (fun ls hl => ?_)
  exact q_R_forgetFrom l K G A hD X hr hml hlocks σ t ht hB hT0 (mR_targets σ) 0 (Nat.zero_add _) _ rfl s.heap [] ls hP hS (lv_sub hl [0, 1, 2] rfl)
end
