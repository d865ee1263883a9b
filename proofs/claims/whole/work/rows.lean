section
-- ===== PART A: goes FIRST, ahead of the names: the tables' words, and 'selects' of the private methods out of them =====
/-- a private method of a class that the tables say can be made, by its rows of tables_1 -/
def lw_okq (q : MethodName × Nat) : Prop := (q.1.cls ≠ "java/lang/invoke/MethodHandle" ∧ q.1.cls ≠ "java/lang/invoke/VarHandle") ∧ Cond.instantiable q.1.cls q.2 ∈ tables_1 ∧ Cond.privateMethod q.1 ∈ tables_1 ∧ Cond.instanceMethod q.1 ∈ tables_1
theorem lw_p0 : lw_okq (⟨"RiverRoad", "found", "(I)I"⟩, 7) := ⟨⟨by decide +kernel, by decide +kernel⟩, List.mem_of_getElem? (i := 19) (by decide +kernel), List.mem_of_getElem? (i := 83) (by decide +kernel), List.mem_of_getElem? (i := 84) (by decide +kernel)⟩
theorem lw_p1 : lw_okq (⟨"RiverRoad", "settled", "(I)I"⟩, 7) := ⟨⟨by decide +kernel, by decide +kernel⟩, List.mem_of_getElem? (i := 19) (by decide +kernel), List.mem_of_getElem? (i := 102) (by decide +kernel), List.mem_of_getElem? (i := 103) (by decide +kernel)⟩
theorem lw_p2 : lw_okq (⟨"RiverRoad", "shelve", "(ILRiverRoad$Thing;)I"⟩, 7) := ⟨⟨by decide +kernel, by decide +kernel⟩, List.mem_of_getElem? (i := 19) (by decide +kernel), List.mem_of_getElem? (i := 215) (by decide +kernel), List.mem_of_getElem? (i := 216) (by decide +kernel)⟩
theorem lw_p3 : lw_okq (⟨"RiverRoad", "notThat", "(I)I"⟩, 7) := ⟨⟨by decide +kernel, by decide +kernel⟩, List.mem_of_getElem? (i := 19) (by decide +kernel), List.mem_of_getElem? (i := 250) (by decide +kernel), List.mem_of_getElem? (i := 251) (by decide +kernel)⟩
theorem lw_p4 : lw_okq (⟨"RiverRoad", "endingsOf", "(II)I"⟩, 7) := ⟨⟨by decide +kernel, by decide +kernel⟩, List.mem_of_getElem? (i := 19) (by decide +kernel), List.mem_of_getElem? (i := 377) (by decide +kernel), List.mem_of_getElem? (i := 378) (by decide +kernel)⟩
theorem lw_p5 : lw_okq (⟨"RiverRoad", "plusOfRank", "(II)J"⟩, 7) := ⟨⟨by decide +kernel, by decide +kernel⟩, List.mem_of_getElem? (i := 19) (by decide +kernel), List.mem_of_getElem? (i := 381) (by decide +kernel), List.mem_of_getElem? (i := 382) (by decide +kernel)⟩
theorem lw_p6 : lw_okq (⟨"RiverRoad", "rankOf", "(LRiverRoad$Arches;)I"⟩, 7) := ⟨⟨by decide +kernel, by decide +kernel⟩, List.mem_of_getElem? (i := 19) (by decide +kernel), List.mem_of_getElem? (i := 537) (by decide +kernel), List.mem_of_getElem? (i := 538) (by decide +kernel)⟩
theorem lw_p7 : lw_okq (⟨"RiverRoad", "seekNthFold", "(II)Z"⟩, 7) := ⟨⟨by decide +kernel, by decide +kernel⟩, List.mem_of_getElem? (i := 19) (by decide +kernel), List.mem_of_getElem? (i := 593) (by decide +kernel), List.mem_of_getElem? (i := 594) (by decide +kernel)⟩
theorem lw_p8 : lw_okq (⟨"RiverRoad", "seekFold", "(III)I"⟩, 7) := ⟨⟨by decide +kernel, by decide +kernel⟩, List.mem_of_getElem? (i := 19) (by decide +kernel), List.mem_of_getElem? (i := 597) (by decide +kernel), List.mem_of_getElem? (i := 598) (by decide +kernel)⟩
theorem lw_p9 : lw_okq (⟨"RiverRoad", "fits", "(III)Z"⟩, 7) := ⟨⟨by decide +kernel, by decide +kernel⟩, List.mem_of_getElem? (i := 19) (by decide +kernel), List.mem_of_getElem? (i := 601) (by decide +kernel), List.mem_of_getElem? (i := 602) (by decide +kernel)⟩
theorem lw_p10 : lw_okq (⟨"RiverRoad", "closes", "(IIII)Z"⟩, 7) := ⟨⟨by decide +kernel, by decide +kernel⟩, List.mem_of_getElem? (i := 19) (by decide +kernel), List.mem_of_getElem? (i := 605) (by decide +kernel), List.mem_of_getElem? (i := 606) (by decide +kernel)⟩
theorem lw_p11 : lw_okq (⟨"RiverRoadModel", "finds", "(I)I"⟩, 34) := ⟨⟨by decide +kernel, by decide +kernel⟩, List.mem_of_getElem? (i := 626) (by decide +kernel), List.mem_of_getElem? (i := 748) (by decide +kernel), List.mem_of_getElem? (i := 749) (by decide +kernel)⟩
theorem lw_p12 : lw_okq (⟨"RiverRoadModel", "well", "(I)I"⟩, 34) := ⟨⟨by decide +kernel, by decide +kernel⟩, List.mem_of_getElem? (i := 626) (by decide +kernel), List.mem_of_getElem? (i := 753) (by decide +kernel), List.mem_of_getElem? (i := 754) (by decide +kernel)⟩
theorem lw_p13 : lw_okq (⟨"RiverRoadModel", "keep", "(II)I"⟩, 34) := ⟨⟨by decide +kernel, by decide +kernel⟩, List.mem_of_getElem? (i := 626) (by decide +kernel), List.mem_of_getElem? (i := 778) (by decide +kernel), List.mem_of_getElem? (i := 779) (by decide +kernel)⟩
theorem lw_p14 : lw_okq (⟨"RiverRoadModel", "rowKind", "()I"⟩, 34) := ⟨⟨by decide +kernel, by decide +kernel⟩, List.mem_of_getElem? (i := 626) (by decide +kernel), List.mem_of_getElem? (i := 782) (by decide +kernel), List.mem_of_getElem? (i := 783) (by decide +kernel)⟩
theorem lw_p15 : lw_okq (⟨"RiverRoadModel", "joins", "([I[III)Z"⟩, 34) := ⟨⟨by decide +kernel, by decide +kernel⟩, List.mem_of_getElem? (i := 626) (by decide +kernel), List.mem_of_getElem? (i := 786) (by decide +kernel), List.mem_of_getElem? (i := 787) (by decide +kernel)⟩
def lw_privs_1 : List (MethodName × Nat) := [(⟨"RiverRoad", "found", "(I)I"⟩, 7), (⟨"RiverRoad", "settled", "(I)I"⟩, 7), (⟨"RiverRoad", "shelve", "(ILRiverRoad$Thing;)I"⟩, 7), (⟨"RiverRoad", "notThat", "(I)I"⟩, 7), (⟨"RiverRoad", "endingsOf", "(II)I"⟩, 7), (⟨"RiverRoad", "plusOfRank", "(II)J"⟩, 7), (⟨"RiverRoad", "rankOf", "(LRiverRoad$Arches;)I"⟩, 7), (⟨"RiverRoad", "seekNthFold", "(II)Z"⟩, 7), (⟨"RiverRoad", "seekFold", "(III)I"⟩, 7), (⟨"RiverRoad", "fits", "(III)Z"⟩, 7), (⟨"RiverRoad", "closes", "(IIII)Z"⟩, 7), (⟨"RiverRoadModel", "finds", "(I)I"⟩, 34), (⟨"RiverRoadModel", "well", "(I)I"⟩, 34), (⟨"RiverRoadModel", "keep", "(II)I"⟩, 34), (⟨"RiverRoadModel", "rowKind", "()I"⟩, 34), (⟨"RiverRoadModel", "joins", "([I[III)Z"⟩, 34)]
theorem lw_r1 : ∀ q ∈ lw_privs_1, lw_okq q := List.forall_mem_cons.mpr ⟨lw_p0, List.forall_mem_cons.mpr ⟨lw_p1, List.forall_mem_cons.mpr ⟨lw_p2, List.forall_mem_cons.mpr ⟨lw_p3, List.forall_mem_cons.mpr ⟨lw_p4, List.forall_mem_cons.mpr ⟨lw_p5, List.forall_mem_cons.mpr ⟨lw_p6, List.forall_mem_cons.mpr ⟨lw_p7, List.forall_mem_cons.mpr ⟨lw_p8, List.forall_mem_cons.mpr ⟨lw_p9, List.forall_mem_cons.mpr ⟨lw_p10, List.forall_mem_cons.mpr ⟨lw_p11, List.forall_mem_cons.mpr ⟨lw_p12, List.forall_mem_cons.mpr ⟨lw_p13, List.forall_mem_cons.mpr ⟨lw_p14, List.forall_mem_cons.mpr ⟨lw_p15, fun _ h => absurd h List.not_mem_nil⟩⟩⟩⟩⟩⟩⟩⟩⟩⟩⟩⟩⟩⟩⟩⟩
theorem lw_p16 : lw_okq (⟨"RiverRoadModel", "landLoops", "(I)I"⟩, 34) := ⟨⟨by decide +kernel, by decide +kernel⟩, List.mem_of_getElem? (i := 626) (by decide +kernel), List.mem_of_getElem? (i := 790) (by decide +kernel), List.mem_of_getElem? (i := 791) (by decide +kernel)⟩
theorem lw_p17 : lw_okq (⟨"RiverRoadModel", "findLoops", "([II[III)I"⟩, 34) := ⟨⟨by decide +kernel, by decide +kernel⟩, List.mem_of_getElem? (i := 626) (by decide +kernel), List.mem_of_getElem? (i := 794) (by decide +kernel), List.mem_of_getElem? (i := 795) (by decide +kernel)⟩
theorem lw_p18 : lw_okq (⟨"RiverRoadModel", "isFolding", "([III)Z"⟩, 34) := ⟨⟨by decide +kernel, by decide +kernel⟩, List.mem_of_getElem? (i := 626) (by decide +kernel), List.mem_of_getElem? (i := 798) (by decide +kernel), List.mem_of_getElem? (i := 799) (by decide +kernel)⟩
theorem lw_p19 : lw_okq (⟨"RiverRoadModel", "copyThing", "(II)V"⟩, 34) := ⟨⟨by decide +kernel, by decide +kernel⟩, List.mem_of_getElem? (i := 626) (by decide +kernel), List.mem_of_getElem? (i := 803) (by decide +kernel), List.mem_of_getElem? (i := 804) (by decide +kernel)⟩
theorem lw_p20 : lw_okq (⟨"RiverRoadModel", "refusal", "(II)I"⟩, 34) := ⟨⟨by decide +kernel, by decide +kernel⟩, List.mem_of_getElem? (i := 626) (by decide +kernel), List.mem_of_getElem? (i := 811) (by decide +kernel), List.mem_of_getElem? (i := 812) (by decide +kernel)⟩
theorem lw_p21 : lw_okq (⟨"RiverRoadModel", "tell", "([IIII)Z"⟩, 34) := ⟨⟨by decide +kernel, by decide +kernel⟩, List.mem_of_getElem? (i := 626) (by decide +kernel), List.mem_of_getElem? (i := 827) (by decide +kernel), List.mem_of_getElem? (i := 828) (by decide +kernel)⟩
theorem lw_p22 : lw_okq (⟨"RiverRoadModel", "endsOf", "(II)I"⟩, 34) := ⟨⟨by decide +kernel, by decide +kernel⟩, List.mem_of_getElem? (i := 626) (by decide +kernel), List.mem_of_getElem? (i := 831) (by decide +kernel), List.mem_of_getElem? (i := 832) (by decide +kernel)⟩
theorem lw_p23 : lw_okq (⟨"RiverRoadModel", "turnTo", "([II[III)V"⟩, 34) := ⟨⟨by decide +kernel, by decide +kernel⟩, List.mem_of_getElem? (i := 626) (by decide +kernel), List.mem_of_getElem? (i := 839) (by decide +kernel), List.mem_of_getElem? (i := 840) (by decide +kernel)⟩
theorem lw_p24 : lw_okq (⟨"RiverRoadModel", "mirrorTo", "([II[III)V"⟩, 34) := ⟨⟨by decide +kernel, by decide +kernel⟩, List.mem_of_getElem? (i := 626) (by decide +kernel), List.mem_of_getElem? (i := 847) (by decide +kernel), List.mem_of_getElem? (i := 848) (by decide +kernel)⟩
theorem lw_p25 : lw_okq (⟨"RiverRoadModel", "sizeOf", "(I)I"⟩, 34) := ⟨⟨by decide +kernel, by decide +kernel⟩, List.mem_of_getElem? (i := 626) (by decide +kernel), List.mem_of_getElem? (i := 872) (by decide +kernel), List.mem_of_getElem? (i := 873) (by decide +kernel)⟩
theorem lw_p26 : lw_okq (⟨"RiverRoadModel", "begins", "(I)V"⟩, 34) := ⟨⟨by decide +kernel, by decide +kernel⟩, List.mem_of_getElem? (i := 626) (by decide +kernel), List.mem_of_getElem? (i := 876) (by decide +kernel), List.mem_of_getElem? (i := 877) (by decide +kernel)⟩
theorem lw_p27 : lw_okq (⟨"RiverRoadModel", "worth", "(I)I"⟩, 34) := ⟨⟨by decide +kernel, by decide +kernel⟩, List.mem_of_getElem? (i := 626) (by decide +kernel), List.mem_of_getElem? (i := 880) (by decide +kernel), List.mem_of_getElem? (i := 881) (by decide +kernel)⟩
theorem lw_p28 : lw_okq (⟨"RiverRoadModel", "mark", "(I)I"⟩, 34) := ⟨⟨by decide +kernel, by decide +kernel⟩, List.mem_of_getElem? (i := 626) (by decide +kernel), List.mem_of_getElem? (i := 884) (by decide +kernel), List.mem_of_getElem? (i := 885) (by decide +kernel)⟩
theorem lw_p29 : lw_okq (⟨"RiverRoadModel", "rankOf", "([III)I"⟩, 34) := ⟨⟨by decide +kernel, by decide +kernel⟩, List.mem_of_getElem? (i := 626) (by decide +kernel), List.mem_of_getElem? (i := 905) (by decide +kernel), List.mem_of_getElem? (i := 906) (by decide +kernel)⟩
theorem lw_p30 : lw_okq (⟨"RiverRoadModel", "countLands", "(I)V"⟩, 34) := ⟨⟨by decide +kernel, by decide +kernel⟩, List.mem_of_getElem? (i := 626) (by decide +kernel), List.mem_of_getElem? (i := 922) (by decide +kernel), List.mem_of_getElem? (i := 923) (by decide +kernel)⟩
theorem lw_p31 : lw_okq (⟨"RiverRoadModel", "tellAll", "(I)I"⟩, 34) := ⟨⟨by decide +kernel, by decide +kernel⟩, List.mem_of_getElem? (i := 626) (by decide +kernel), List.mem_of_getElem? (i := 926) (by decide +kernel), List.mem_of_getElem? (i := 927) (by decide +kernel)⟩
def lw_privs_2 : List (MethodName × Nat) := [(⟨"RiverRoadModel", "landLoops", "(I)I"⟩, 34), (⟨"RiverRoadModel", "findLoops", "([II[III)I"⟩, 34), (⟨"RiverRoadModel", "isFolding", "([III)Z"⟩, 34), (⟨"RiverRoadModel", "copyThing", "(II)V"⟩, 34), (⟨"RiverRoadModel", "refusal", "(II)I"⟩, 34), (⟨"RiverRoadModel", "tell", "([IIII)Z"⟩, 34), (⟨"RiverRoadModel", "endsOf", "(II)I"⟩, 34), (⟨"RiverRoadModel", "turnTo", "([II[III)V"⟩, 34), (⟨"RiverRoadModel", "mirrorTo", "([II[III)V"⟩, 34), (⟨"RiverRoadModel", "sizeOf", "(I)I"⟩, 34), (⟨"RiverRoadModel", "begins", "(I)V"⟩, 34), (⟨"RiverRoadModel", "worth", "(I)I"⟩, 34), (⟨"RiverRoadModel", "mark", "(I)I"⟩, 34), (⟨"RiverRoadModel", "rankOf", "([III)I"⟩, 34), (⟨"RiverRoadModel", "countLands", "(I)V"⟩, 34), (⟨"RiverRoadModel", "tellAll", "(I)I"⟩, 34)]
theorem lw_r2 : ∀ q ∈ lw_privs_2, lw_okq q := List.forall_mem_cons.mpr ⟨lw_p16, List.forall_mem_cons.mpr ⟨lw_p17, List.forall_mem_cons.mpr ⟨lw_p18, List.forall_mem_cons.mpr ⟨lw_p19, List.forall_mem_cons.mpr ⟨lw_p20, List.forall_mem_cons.mpr ⟨lw_p21, List.forall_mem_cons.mpr ⟨lw_p22, List.forall_mem_cons.mpr ⟨lw_p23, List.forall_mem_cons.mpr ⟨lw_p24, List.forall_mem_cons.mpr ⟨lw_p25, List.forall_mem_cons.mpr ⟨lw_p26, List.forall_mem_cons.mpr ⟨lw_p27, List.forall_mem_cons.mpr ⟨lw_p28, List.forall_mem_cons.mpr ⟨lw_p29, List.forall_mem_cons.mpr ⟨lw_p30, List.forall_mem_cons.mpr ⟨lw_p31, fun _ h => absurd h List.not_mem_nil⟩⟩⟩⟩⟩⟩⟩⟩⟩⟩⟩⟩⟩⟩⟩⟩
theorem lw_p32 : lw_okq (⟨"RiverRoadModel", "goThrough", "(II)I"⟩, 34) := ⟨⟨by decide +kernel, by decide +kernel⟩, List.mem_of_getElem? (i := 626) (by decide +kernel), List.mem_of_getElem? (i := 953) (by decide +kernel), List.mem_of_getElem? (i := 954) (by decide +kernel)⟩
theorem lw_p33 : lw_okq (⟨"RiverRoadModel", "nextOrder", "(I)Z"⟩, 34) := ⟨⟨by decide +kernel, by decide +kernel⟩, List.mem_of_getElem? (i := 626) (by decide +kernel), List.mem_of_getElem? (i := 957) (by decide +kernel), List.mem_of_getElem? (i := 958) (by decide +kernel)⟩
def lw_privs_3 : List (MethodName × Nat) := [(⟨"RiverRoadModel", "goThrough", "(II)I"⟩, 34), (⟨"RiverRoadModel", "nextOrder", "(I)Z"⟩, 34)]
theorem lw_r3 : ∀ q ∈ lw_privs_3, lw_okq q := List.forall_mem_cons.mpr ⟨lw_p32, List.forall_mem_cons.mpr ⟨lw_p33, fun _ h => absurd h List.not_mem_nil⟩⟩
def lw_privs : List (MethodName × Nat) := lw_privs_1 ++ (lw_privs_2 ++ (lw_privs_3))
def lw_tbl : List Cond := k2_sels lw_privs ++ tables_1
theorem lw_privs_ok : ∀ q ∈ lw_privs, lw_okq q := by
  show ∀ q ∈ lw_privs_1 ++ (lw_privs_2 ++ (lw_privs_3)), lw_okq q
  exact List.forall_mem_append.mpr ⟨lw_r1, List.forall_mem_append.mpr ⟨lw_r2, lw_r3⟩⟩
/-! fields of the classes, in an order of ours: n is the first of every THING, plus the second of every ROW, partner the third of all ARCHES -/
def F_RR : u_T := fun k => match k with
  | 0 => ("RiverRoad", "sheets", "[LRiverRoad$Sheet;", true)
  | 1 => ("RiverRoad", "shelf", "[LRiverRoad$Thing;", true)
  | 2 => ("RiverRoad", "bodies", "LRiverRoad$Trace;", true)
  | 3 => ("RiverRoad", "endings", "[I", true)
  | 4 => ("RiverRoad", "foldStamps", "[I", true)
  | 5 => ("RiverRoad", "foldPlaces", "[I", true)
  | _ => ("RiverRoad", "latestFinding", "I", false)
def t_RR : Nat → FieldType := fun k => match k with
  | 0 => .array (.object "RiverRoad$Sheet")
  | 1 => .array (.object "RiverRoad$Thing")
  | 2 => .object "RiverRoad$Trace"
  | 3 => .array .int
  | 4 => .array .int
  | 5 => .array .int
  | _ => .int
def F_Tr : u_T := fun k => match k with
  | 0 => ("RiverRoad$Trace", "numbers", "[I", true)
  | _ => ("RiverRoad$Trace", "length", "I", false)
def t_Tr : Nat → FieldType := fun k => match k with
  | 0 => .array .int
  | _ => .int
def F_Sh : u_T := fun k => match k with
  | 0 => ("RiverRoad$Sheet", "lane", "I", true)
  | _ => ("RiverRoad$Sheet", "items", "[I", true)
def t_Sh : Nat → FieldType := fun k => match k with
  | 0 => .int
  | _ => .array .int
def F_Row : u_T := fun k => match k with
  | 0 => ("RiverRoad$Thing", "n", "I", true)
  | _ => ("RiverRoad$Row", "plus", "J", true)
def t_Row : Nat → FieldType := fun k => match k with
  | 0 => .int
  | _ => .long
def F_Ar : u_T := fun k => match k with
  | 0 => ("RiverRoad$Thing", "n", "I", true)
  | 1 => ("RiverRoad$Row", "plus", "J", true)
  | _ => ("RiverRoad$Arches", "partner", "[I", true)
def t_Ar : Nat → FieldType := fun k => match k with
  | 0 => .int
  | 1 => .long
  | _ => .array .int
def F_La : u_T := fun k => match k with
  | 0 => ("RiverRoad$Thing", "n", "I", true)
  | 1 => ("RiverRoad$Land", "over", "LRiverRoad$Arches;", true)
  | 2 => ("RiverRoad$Land", "under", "LRiverRoad$Arches;", true)
  | 3 => ("RiverRoad$Land", "loopOf", "[I", true)
  | _ => ("RiverRoad$Land", "loopCount", "I", true)
def t_La : Nat → FieldType := fun k => match k with
  | 0 => .int
  | 1 => .object "RiverRoad$Arches"
  | 2 => .object "RiverRoad$Arches"
  | 3 => .array .int
  | _ => .int
def F_St : u_T := fun k => match k with
  | 0 => ("RiverRoad$Thing", "n", "I", true)
  | 1 => ("RiverRoad$Strip", "stamps", "[I", true)
  | 2 => ("RiverRoad$Strip", "placeOf", "[I", true)
  | 3 => ("RiverRoad$Strip", "clashFirst", "I", true)
  | _ => ("RiverRoad$Strip", "clashSecond", "I", true)
def t_St : Nat → FieldType := fun k => match k with
  | 0 => .int
  | 1 => .array .int
  | 2 => .array .int
  | 3 => .int
  | _ => .int
def F_Mo : u_T := fun k => match k with
  | 0 => ("RiverRoadModel", "lane", "[I", true)
  | 1 => ("RiverRoadModel", "size", "[I", true)
  | 2 => ("RiverRoadModel", "item", "[I", true)
  | 3 => ("RiverRoadModel", "moving", "[I", true)
  | 4 => ("RiverRoadModel", "kinds", "[I", true)
  | 5 => ("RiverRoadModel", "many", "[I", true)
  | 6 => ("RiverRoadModel", "one", "[I", true)
  | 7 => ("RiverRoadModel", "two", "[I", true)
  | 8 => ("RiverRoadModel", "over", "[I", true)
  | 9 => ("RiverRoadModel", "under", "[I", true)
  | 10 => ("RiverRoadModel", "status", "I", false)
  | 11 => ("RiverRoadModel", "trace", "[I", true)
  | 12 => ("RiverRoadModel", "traced", "I", false)
  | 13 => ("RiverRoadModel", "open", "[I", true)
  | 14 => ("RiverRoadModel", "loopOf", "[I", true)
  | 15 => ("RiverRoadModel", "stands", "[I", true)
  | 16 => ("RiverRoadModel", "clashOne", "I", false)
  | 17 => ("RiverRoadModel", "clashTwo", "I", false)
  | 18 => ("RiverRoadModel", "met", "[Z", true)
  | 19 => ("RiverRoadModel", "ends", "[I", true)
  | 20 => ("RiverRoadModel", "isCounted", "Z", false)
  | 21 => ("RiverRoadModel", "allSigns", "[I", true)
  | 22 => ("RiverRoadModel", "allJoined", "[I", true)
  | 23 => ("RiverRoadModel", "allOf", "I", false)
  | 24 => ("RiverRoadModel", "landCount", "[I", true)
  | 25 => ("RiverRoadModel", "isLandCounted", "[Z", true)
  | 26 => ("RiverRoadModel", "unlikes", "[I", true)
  | 27 => ("RiverRoadModel", "foldCount", "[I", true)
  | 28 => ("RiverRoadModel", "open2", "[I", true)
  | 29 => ("RiverRoadModel", "isDone", "[Z", true)
  | 30 => ("RiverRoadModel", "turned", "[I", true)
  | 31 => ("RiverRoadModel", "mirrored", "[I", true)
  | 32 => ("RiverRoadModel", "toDo", "[I", true)
  | _ => ("RiverRoadModel", "order", "[I", true)
def t_Mo : Nat → FieldType := fun k => match k with
  | 0 => .array .int
  | 1 => .array .int
  | 2 => .array .int
  | 3 => .array .int
  | 4 => .array .int
  | 5 => .array .int
  | 6 => .array .int
  | 7 => .array .int
  | 8 => .array .int
  | 9 => .array .int
  | 10 => .int
  | 11 => .array .int
  | 12 => .int
  | 13 => .array .int
  | 14 => .array .int
  | 15 => .array .int
  | 16 => .int
  | 17 => .int
  | 18 => .array .boolean
  | 19 => .array .int
  | 20 => .boolean
  | 21 => .array .int
  | 22 => .array .int
  | 23 => .int
  | 24 => .array .int
  | 25 => .array .boolean
  | 26 => .array .int
  | 27 => .array .int
  | 28 => .array .int
  | 29 => .array .boolean
  | 30 => .array .int
  | 31 => .array .int
  | 32 => .array .int
  | _ => .array .int
abbrev classes : List vw_C := [("RiverRoad", F_RR, 7), ("RiverRoad$Trace", F_Tr, 2), ("RiverRoad$Sheet", F_Sh, 2), ("RiverRoad$Row", F_Row, 2), ("RiverRoad$Arches", F_Ar, 3), ("RiverRoad$Nest", F_Ar, 3), ("RiverRoad$Peaks", F_Ar, 3), ("RiverRoad$Land", F_La, 5), ("RiverRoad$Loop", F_La, 5), ("RiverRoad$Strip", F_St, 5), ("RiverRoad$Fold", F_St, 5), ("RiverRoadModel", F_Mo, 34)]
theorem n_RR : ∀ a, a < 7 → ∀ b, b < 7 → a ≠ b → (F_RR a).2.1 ≠ (F_RR b).2.1 := by decide +kernel
theorem t_RR_ok : ∀ k, k < 7 → parseFieldDescriptor (F_RR k).2.2.1 = some (t_RR k) := by decide +kernel
theorem n_Tr : ∀ a, a < 2 → ∀ b, b < 2 → a ≠ b → (F_Tr a).2.1 ≠ (F_Tr b).2.1 := by decide +kernel
theorem t_Tr_ok : ∀ k, k < 2 → parseFieldDescriptor (F_Tr k).2.2.1 = some (t_Tr k) := by decide +kernel
theorem n_Sh : ∀ a, a < 2 → ∀ b, b < 2 → a ≠ b → (F_Sh a).2.1 ≠ (F_Sh b).2.1 := by decide +kernel
theorem t_Sh_ok : ∀ k, k < 2 → parseFieldDescriptor (F_Sh k).2.2.1 = some (t_Sh k) := by decide +kernel
theorem n_Row : ∀ a, a < 2 → ∀ b, b < 2 → a ≠ b → (F_Row a).2.1 ≠ (F_Row b).2.1 := by decide +kernel
theorem t_Row_ok : ∀ k, k < 2 → parseFieldDescriptor (F_Row k).2.2.1 = some (t_Row k) := by decide +kernel
theorem n_Ar : ∀ a, a < 3 → ∀ b, b < 3 → a ≠ b → (F_Ar a).2.1 ≠ (F_Ar b).2.1 := by decide +kernel
theorem t_Ar_ok : ∀ k, k < 3 → parseFieldDescriptor (F_Ar k).2.2.1 = some (t_Ar k) := by decide +kernel
theorem n_La : ∀ a, a < 5 → ∀ b, b < 5 → a ≠ b → (F_La a).2.1 ≠ (F_La b).2.1 := by decide +kernel
theorem t_La_ok : ∀ k, k < 5 → parseFieldDescriptor (F_La k).2.2.1 = some (t_La k) := by decide +kernel
theorem n_St : ∀ a, a < 5 → ∀ b, b < 5 → a ≠ b → (F_St a).2.1 ≠ (F_St b).2.1 := by decide +kernel
theorem t_St_ok : ∀ k, k < 5 → parseFieldDescriptor (F_St k).2.2.1 = some (t_St k) := by decide +kernel
theorem n_Mo : ∀ a, a < 34 → ∀ b, b < 34 → a ≠ b → (F_Mo a).2.1 ≠ (F_Mo b).2.1 := by decide +kernel
theorem t_Mo_ok : ∀ k, k < 34 → parseFieldDescriptor (F_Mo k).2.2.1 = some (t_Mo k) := by decide +kernel
theorem i_RR : ∀ w ∈ u_ws "RiverRoad" F_RR 7, w ∈ lw_tbl := by decide +kernel
theorem i_Tr : ∀ w ∈ u_ws "RiverRoad$Trace" F_Tr 2, w ∈ lw_tbl := by decide +kernel
theorem i_Sh : ∀ w ∈ u_ws "RiverRoad$Sheet" F_Sh 2, w ∈ lw_tbl := by decide +kernel
theorem i_Row : ∀ w ∈ u_ws "RiverRoad$Row" F_Row 2, w ∈ lw_tbl := by decide +kernel
theorem i_Ar : ∀ w ∈ u_ws "RiverRoad$Arches" F_Ar 3, w ∈ lw_tbl := by decide +kernel
theorem i_Ne : ∀ w ∈ u_ws "RiverRoad$Nest" F_Ar 3, w ∈ lw_tbl := by decide +kernel
theorem i_Pe : ∀ w ∈ u_ws "RiverRoad$Peaks" F_Ar 3, w ∈ lw_tbl := by decide +kernel
theorem i_La : ∀ w ∈ u_ws "RiverRoad$Land" F_La 5, w ∈ lw_tbl := by decide +kernel
theorem i_Lo : ∀ w ∈ u_ws "RiverRoad$Loop" F_La 5, w ∈ lw_tbl := by decide +kernel
theorem i_St : ∀ w ∈ u_ws "RiverRoad$Strip" F_St 5, w ∈ lw_tbl := by decide +kernel
theorem i_Fo : ∀ w ∈ u_ws "RiverRoad$Fold" F_St 5, w ∈ lw_tbl := by decide +kernel
theorem i_Mo : ∀ w ∈ u_ws "RiverRoadModel" F_Mo 34, w ∈ lw_tbl := by decide +kernel
end
section
/-! VALUES, CELLS, WORLDS: numbers are Int, addresses count from the law's first new cell -/
abbrev MV : Type := Int ⊕ (Int ⊕ (Option Nat ⊕ Nat))
abbrev vI (z : Int) : MV := .inl z
abbrev vL (z : Int) : MV := .inr (.inl z)
abbrev vQ (o : Option Nat) : MV := .inr (.inr (.inl o))
abbrev vR (a : Nat) : MV := .inr (.inr (.inl (some a)))
abbrev vN : MV := .inr (.inr (.inl none))
abbrev vS (k : Nat) : MV := .inr (.inr (.inr k))
/-- tables' numbers, arrays' classes, the first new address, the static arrays' addresses -/
abbrev Ev : Type := va_G × (Nat → ClassId) × Nat × (Nat → Nat)
def eb (E : Ev) : Nat := E.2.2.1
def cq (E : Ev) (o : Option Nat) : Option Nat := o.map (fun a => eb E + a)
def cv (E : Ev) (v : MV) : Value := match v with
  | .inl z => .int (Int32.ofInt z)
  | .inr (.inl z) => .long (Int64.ofInt z)
  | .inr (.inr (.inl none)) => .null
  | .inr (.inr (.inl (some a))) => .ref (eb E + a)
  | .inr (.inr (.inr k)) => .ref (E.2.2.2 k)
def i32 (z : Int) : Prop := -2147483648 ≤ z ∧ z < 2147483648
def i64 (z : Int) : Prop := -9223372036854775808 ≤ z ∧ z < 9223372036854775808
def okV (v : MV) : Prop := match v with
  | .inl z => i32 z
  | .inr (.inl z) => i64 z
  | .inr (.inr _) => True
abbrev MC : Type := (Bool × Nat × Nat × (Nat → Int)) ⊕ ((Nat × Nat × (Nat → Option Nat)) ⊕ (Nat × List MV))
abbrev kA (t n : Nat) (f : Nat → Int) : MC := .inl (false, t, n, f)
abbrev kZ (n : Nat) (f : Nat → Int) : MC := .inl (true, 0, n, f)
abbrev kR (y n : Nat) (g : Nat → Option Nat) : MC := .inr (.inl (y, n, g))
abbrev kO (ci : Nat) (fs : List MV) : MC := .inr (.inr (ci, fs))
abbrev MH : Type := Nat → Option MC
def ec (E : Ev) (c : MC) : va_E := match c with
  | .inl (b, _, n, f) => .inl (E.2.1 (if b then 1 else 0), n, .inl (fun j => Int32.ofInt (f j)))
  | .inr (.inl (y, n, g)) => .inl (E.2.1 (2 + y), n, .inr (.inr (.inr (.inr (fun j => cq E (g j))))))
  | .inr (.inr (ci, fs)) => .inr (ci, fs.map (cv E))
def okC (c : MC) : Prop := match c with
  | .inl (b, _, n, f) => n < 2147483648 ∧ ∀ j, j < n → i32 (f j) ∧ (b = true → f j = 0 ∨ f j = 1)
  | .inr (.inl (_, n, _)) => n < 2147483648
  | .inr (.inr (_, fs)) => ∀ v ∈ fs, okV v
def ty4 (E : Ev) : List (ClassId × FieldType) := [(E.2.1 0, .int), (E.2.1 1, .boolean), (E.2.1 2, .object "RiverRoad$Sheet"), (E.2.1 3, .object "RiverRoad$Thing")]
/-- the static arrays -/
def stN (k : Nat) : String := match k with
  | 1 => "LANDS_BY_LOOPS"
  | 2 => "UNLIKE_LOOPS"
  | _ => "FOLDS_BY_FIRST"
def stL (k : Nat) : Nat := match k with
  | 1 => 49
  | 2 => 5
  | _ => 8
def stT (k : Nat) : List Int := match k with
  | 1 => [1, 0, 0, 0, 0, 0, 0, 2, 2, 0, 0, 0, 0, 0, 8, 12, 5, 0, 0, 0, 0, 42, 84, 56, 14, 0, 0, 0, 262, 640, 580, 240, 42, 0, 0, 1828, 5236, 5894, 3344, 990, 132, 0, 13820, 45164, 60312, 42840, 17472, 4004, 429]
  | 2 => [1, 1, 2, 4, 14]
  | _ => [1, 1, 2, 4, 10, 24, 66, 174]
def stV (k j : Nat) : Int := (stT k).getD j 0
/-- classes that may be cast, methods that are declared alone, pairs that may not be cast -/
def caL : List (String × String) := [("[I", "java/lang/Cloneable"), ("RiverRoad$Nest", "RiverRoad$Arches"), ("RiverRoad$Peaks", "RiverRoad$Arches"), ("RiverRoad$Loop", "RiverRoad$Land"), ("RiverRoad$Arches", "RiverRoad$Row"), ("RiverRoad$Nest", "RiverRoad$Row"), ("RiverRoad$Peaks", "RiverRoad$Row"), ("RiverRoad$Fold", "RiverRoad$Strip"), ("RiverRoad$Peaks", "RiverRoad$Thing"), ("RiverRoad$Nest", "RiverRoad$Thing"), ("RiverRoad$Arches", "RiverRoad$Thing"), ("RiverRoad$Row", "RiverRoad$Thing"), ("RiverRoad$Loop", "RiverRoad$Thing"), ("RiverRoad$Land", "RiverRoad$Thing"), ("RiverRoad$Strip", "RiverRoad$Thing"), ("RiverRoad$Fold", "RiverRoad$Thing")]
def deL : List MethodName := [⟨"RiverRoad$Thing", "told", "()I"⟩, ⟨"RiverRoad$Thing", "askWorth", "(LRiverRoad$Trace;)I"⟩, ⟨"RiverRoad$Land", "askSize", "(LRiverRoad$Trace;)I"⟩, ⟨"RiverRoad$Thing", "askSize", "(LRiverRoad$Trace;)I"⟩, ⟨"RiverRoad$Thing", "askMark", "(LRiverRoad$Trace;)I"⟩, ⟨"RiverRoad$Arches", "askWorth", "(LRiverRoad$Trace;)I"⟩]
def ncL : List (String × String) := [("RiverRoad", "RiverRoad$Arches"), ("RiverRoad$Trace", "RiverRoad$Arches"), ("RiverRoadModel", "RiverRoad$Arches"), ("RiverRoad$Sheet", "RiverRoad$Arches"), ("RiverRoad$Row", "RiverRoad$Arches"), ("RiverRoad$Loop", "RiverRoad$Arches"), ("RiverRoad$Land", "RiverRoad$Arches"), ("RiverRoad$Strip", "RiverRoad$Arches"), ("RiverRoad$Fold", "RiverRoad$Arches"), ("RiverRoad", "RiverRoad$Land"), ("RiverRoad$Trace", "RiverRoad$Land"), ("RiverRoadModel", "RiverRoad$Land"), ("RiverRoad$Sheet", "RiverRoad$Land"), ("RiverRoad$Peaks", "RiverRoad$Land"), ("RiverRoad$Nest", "RiverRoad$Land"), ("RiverRoad$Arches", "RiverRoad$Land"), ("RiverRoad$Row", "RiverRoad$Land"), ("RiverRoad$Strip", "RiverRoad$Land"), ("RiverRoad$Fold", "RiverRoad$Land"), ("RiverRoad", "RiverRoad$Row"), ("RiverRoad$Trace", "RiverRoad$Row"), ("RiverRoadModel", "RiverRoad$Row"), ("RiverRoad$Sheet", "RiverRoad$Row"), ("RiverRoad$Loop", "RiverRoad$Row"), ("RiverRoad$Land", "RiverRoad$Row"), ("RiverRoad$Strip", "RiverRoad$Row"), ("RiverRoad$Fold", "RiverRoad$Row"), ("RiverRoad", "RiverRoad$Nest"), ("RiverRoad$Trace", "RiverRoad$Nest"), ("RiverRoadModel", "RiverRoad$Nest"), ("RiverRoad$Sheet", "RiverRoad$Nest"), ("RiverRoad$Peaks", "RiverRoad$Nest"), ("RiverRoad$Arches", "RiverRoad$Nest"), ("RiverRoad$Row", "RiverRoad$Nest"), ("RiverRoad$Loop", "RiverRoad$Nest"), ("RiverRoad$Land", "RiverRoad$Nest"), ("RiverRoad$Strip", "RiverRoad$Nest"), ("RiverRoad$Fold", "RiverRoad$Nest"), ("RiverRoad", "RiverRoad$Peaks"), ("RiverRoad$Trace", "RiverRoad$Peaks"), ("RiverRoadModel", "RiverRoad$Peaks"), ("RiverRoad$Sheet", "RiverRoad$Peaks"), ("RiverRoad$Nest", "RiverRoad$Peaks"), ("RiverRoad$Arches", "RiverRoad$Peaks"), ("RiverRoad$Row", "RiverRoad$Peaks"), ("RiverRoad$Loop", "RiverRoad$Peaks"), ("RiverRoad$Land", "RiverRoad$Peaks"), ("RiverRoad$Strip", "RiverRoad$Peaks"), ("RiverRoad$Fold", "RiverRoad$Peaks"), ("RiverRoad", "RiverRoad$Loop"), ("RiverRoad$Trace", "RiverRoad$Loop"), ("RiverRoadModel", "RiverRoad$Loop"), ("RiverRoad$Sheet", "RiverRoad$Loop"), ("RiverRoad$Peaks", "RiverRoad$Loop"), ("RiverRoad$Nest", "RiverRoad$Loop"), ("RiverRoad$Arches", "RiverRoad$Loop"), ("RiverRoad$Row", "RiverRoad$Loop"), ("RiverRoad$Land", "RiverRoad$Loop"), ("RiverRoad$Strip", "RiverRoad$Loop"), ("RiverRoad$Fold", "RiverRoad$Loop"), ("RiverRoad", "RiverRoad$Strip"), ("RiverRoad$Trace", "RiverRoad$Strip"), ("RiverRoadModel", "RiverRoad$Strip"), ("RiverRoad$Sheet", "RiverRoad$Strip"), ("RiverRoad$Peaks", "RiverRoad$Strip"), ("RiverRoad$Nest", "RiverRoad$Strip"), ("RiverRoad$Arches", "RiverRoad$Strip"), ("RiverRoad$Row", "RiverRoad$Strip"), ("RiverRoad$Loop", "RiverRoad$Strip"), ("RiverRoad$Land", "RiverRoad$Strip"), ("RiverRoad", "RiverRoad$Fold"), ("RiverRoad$Trace", "RiverRoad$Fold"), ("RiverRoadModel", "RiverRoad$Fold"), ("RiverRoad$Sheet", "RiverRoad$Fold"), ("RiverRoad$Peaks", "RiverRoad$Fold"), ("RiverRoad$Nest", "RiverRoad$Fold"), ("RiverRoad$Arches", "RiverRoad$Fold"), ("RiverRoad$Row", "RiverRoad$Fold"), ("RiverRoad$Loop", "RiverRoad$Fold"), ("RiverRoad$Land", "RiverRoad$Fold"), ("RiverRoad$Strip", "RiverRoad$Fold"), ("[LRiverRoad$Sheet;", "RiverRoad$Arches"), ("[LRiverRoad$Thing;", "RiverRoad$Arches"), ("[I", "RiverRoad$Arches"), ("[Z", "RiverRoad$Arches"), ("[LRiverRoad$Sheet;", "RiverRoad$Land"), ("[LRiverRoad$Thing;", "RiverRoad$Land"), ("[I", "RiverRoad$Land"), ("[Z", "RiverRoad$Land"), ("[LRiverRoad$Sheet;", "RiverRoad$Row"), ("[LRiverRoad$Thing;", "RiverRoad$Row"), ("[I", "RiverRoad$Row"), ("[Z", "RiverRoad$Row"), ("[LRiverRoad$Sheet;", "RiverRoad$Nest"), ("[LRiverRoad$Thing;", "RiverRoad$Nest"), ("[I", "RiverRoad$Nest"), ("[Z", "RiverRoad$Nest"), ("[LRiverRoad$Sheet;", "RiverRoad$Peaks"), ("[LRiverRoad$Thing;", "RiverRoad$Peaks"), ("[I", "RiverRoad$Peaks"), ("[Z", "RiverRoad$Peaks"), ("[LRiverRoad$Sheet;", "RiverRoad$Loop"), ("[LRiverRoad$Thing;", "RiverRoad$Loop"), ("[I", "RiverRoad$Loop"), ("[Z", "RiverRoad$Loop"), ("[LRiverRoad$Sheet;", "RiverRoad$Strip"), ("[LRiverRoad$Thing;", "RiverRoad$Strip"), ("[I", "RiverRoad$Strip"), ("[Z", "RiverRoad$Strip"), ("[LRiverRoad$Sheet;", "RiverRoad$Fold"), ("[LRiverRoad$Thing;", "RiverRoad$Fold"), ("[I", "RiverRoad$Fold"), ("[Z", "RiverRoad$Fold"), ("RiverRoad", "RiverRoad$Sheet"), ("RiverRoad$Trace", "RiverRoad$Sheet"), ("RiverRoadModel", "RiverRoad$Sheet"), ("RiverRoad$Peaks", "RiverRoad$Sheet"), ("RiverRoad$Nest", "RiverRoad$Sheet"), ("RiverRoad$Arches", "RiverRoad$Sheet"), ("RiverRoad$Row", "RiverRoad$Sheet"), ("RiverRoad$Loop", "RiverRoad$Sheet"), ("RiverRoad$Land", "RiverRoad$Sheet"), ("RiverRoad$Strip", "RiverRoad$Sheet"), ("RiverRoad$Fold", "RiverRoad$Sheet"), ("RiverRoad$Thing", "RiverRoad$Sheet"), ("RiverRoad", "RiverRoad$Thing"), ("RiverRoad$Trace", "RiverRoad$Thing"), ("RiverRoadModel", "RiverRoad$Thing"), ("RiverRoad$Sheet", "RiverRoad$Thing")]

/-- what a state says of the tables, of the casts, of the static arrays -/
def SF (E : Ev) (U : State) : Prop :=
  va_K E.1 classes (ty4 E) U ∧ (∀ w ∈ lw_tbl, goodWord w = true → w.before #[] U = true) ∧
  (∀ q ∈ caL, va_Nw (.castable q.1 q.2) U) ∧ (∀ y ∈ deL, va_Nw (.declares y) U) ∧ va_Nw (.methodLinkNest "RiverRoad" 23 ⟨"RiverRoad$Trace", "<init>", "()V"⟩ "RiverRoad") U ∧
  (∀ q ∈ ncL, va_Nc q.1 q.2 U) ∧ va_AO "RiverRoad$Sheet" U ∧ va_AO "RiverRoad$Thing" U ∧ eb E ≤ U.heap.size ∧
  ∀ k, 1 ≤ k → k ≤ 3 → va_Z "RiverRoad" (stN k) "[I" (.ref (E.2.2.2 k)) (fun q => eb E ≤ q) U U.heap ∧ va_T .int (E.2.2.2 k) (stL k) (fun j => .int (Int32.ofInt (stV k j))) (fun q => eb E ≤ q) U U.heap
theorem SF.warm {E : Ev} {s U : State} (h : SF E s) (hW : s.WarmedH U.vm) (hb : eb E ≤ U.heap.size) (hq : ∀ q : Nat, q < s.heap.size → ¬ eb E ≤ q → U.heap[q]? = s.heap[q]?) : SF E U := by
  obtain ⟨h1, h2, h3, h4, h5, h6, h7, h8, h9, h10⟩ := h
  refine ⟨va_K.moved hW.alike h1, fun w hw hg => word_at hW (good_of_word hg) (h2 w hw hg), fun q hq => (h3 q hq).warmC hW, fun y hy => (h4 y hy).warmD hW, h5.warmM hW, fun q hq => (h6 q hq).moved hW.alike, h7.moved hW.alike, h8.moved hW.alike, hb, fun k hk1 hk2 => ?_⟩
  obtain ⟨a, b⟩ := h10 k hk1 hk2
  exact ⟨(a.moved hW.alike).kept hq, (b.moved hW.alike).kept hq⟩
/-- the heap holds the cells of h, and is as large as sz says -/
def RW (E : Ev) (h : MH) (sz : Nat) (H : Heap) : Prop := H.size = eb E + sz ∧ ∀ a c, h a = some c → okC c ∧ va_at E.1 classes (eb E + a, ec E c) H
/-- the cells that a method may write: those of h, and new ones -/
def FR (E : Ev) (h : MH) (sz : Nat) : Nat → Prop := fun q => (∃ a c, h a = some c ∧ q = eb E + a) ∨ eb E + sz ≤ q
/-- locals, by their places -/
def lk : List (Option MV) → Nat → Option MV
  | [], _ => none
  | o :: _, 0 => o
  | _ :: l, n + 1 => lk l n
def LL (E : Ev) (nL : Nat) (ls : List (Option MV)) (lv : Array Slot) : Prop := lv.size = nL ∧ lv_wf lv ∧ ∀ i v, lk ls i = some v → lv[i]? = some (.val (cv E v)) ∧ okV v
/-- a method: its name, code, locals, answer -/
abbrev MD : Type := MethodName × ByteArray × Nat × Option FieldType
abbrev QT : Type := Option MV → MH → Nat → Prop
def okRet (rt : Option FieldType) (r : Option MV) : Prop := match r with
  | none => rt = none
  | some (.inl z) => rt = some .int ∨ (rt = some .boolean ∧ (z = 0 ∨ z = 1))
  | some (.inr (.inl _)) => rt = some .long
  | some (.inr (.inr _)) => (∃ t, rt = some (.array t)) ∨ ∃ c, rt = some (.object c)
def retI (r : Option MV) : Instr := match r with
  | none => .return_
  | some (.inl _) => .ireturn
  | some (.inr (.inl _)) => .lreturn
  | some (.inr (.inr _)) => .areturn
/-- the walk's own facts: of the machine, the method, its room (d frames deep, MC cells of MS slots), and what a return needs -/
def Cx (p : Program) (l : Launch) (e : Env) (R : Room) (s : State) (m : MethodId) (args : Array Value) (below : List Frame) (meth : Method) (c : Code) (Z : State → Prop) (E : Ev) (F : Nat → Prop) (cM sM : Nat) (M : MD) (d : Nat) (Q : QT) : Prop :=
  (p.tables.exec = Jvm.exec ∧ c.code = M.2.1 ∧ c.maxLocals = M.2.2.1 ∧ s.vm.findClass M.1.cls = some m.cls ∧ meth.name = M.1.name) ∧ SF E s ∧
  ((∀ q, s.heap.size ≤ q → F q) ∧ (∀ q, F q → eb E ≤ q)) ∧ (d ≤ R.frames ∧ 40 * d ≤ R.locals ∧ cM ≤ R.cells ∧ sM ≤ R.slots) ∧
  ∀ (H : Heap) (locs : List Loc) (lv : Array Slot) (pc : Nat) (r : Option MV) (h : MH) (sz : Nat), RW E h sz H → (∀ a c, h a = some c → F (eb E + a)) → va_S F s.heap H locs → (∀ v, r = some v → okV v) → okRet M.2.2.2 r → Q r h sz → decode M.2.1 pc = .ok (retI r, 1) →
    W p l e R s m args below meth c H locs cM sM Z (F0 m pc lv (r.toList.map (cv E)))
/-- THE WALK over pure worlds: from here the method comes to its end with Q; kc cells of ks slots may still be made -/
def V (M : MD) (d pc : Nat) (ls : List (Option MV)) (st : List MV) (h : MH) (sz kc ks : Nat) (Q : QT) : Prop :=
  ∀ (p : Program) (l : Launch) (e : Env) (R : Room) (s : State) (m : MethodId) (args : Array Value) (below : List Frame) (meth : Method) (c : Code) (Z : State → Prop) (E : Ev) (F : Nat → Prop) (cM sM : Nat),
    Cx p l e R s m args below meth c Z E F cM sM M d Q → ∀ (H : Heap) (locs : List Loc) (cells slots : Nat) (lv : Array Slot),
    RW E h sz H → (∀ a c, h a = some c → F (eb E + a)) → va_S F s.heap H locs → LL E M.2.2.1 ls lv → (∀ v ∈ st, okV v) → cells + kc ≤ cM → slots + ks ≤ sM →
    W p l e R s m args below meth c H locs cells slots Z (F0 m pc lv (st.map (cv E)))
/-- A CONTRACT over pure worlds: from h the method answers, and leaves a world, with Q -/
def cPre (E : Ev) (as : List MV) (h : MH) (sz : Nat) : Array Value → State → Prop := fun a U => a = (as.map (cv E)).toArray ∧ (∀ v ∈ as, okV v) ∧ SF E U ∧ RW E h sz U.heap
def cPost (E : Ev) (h : MH) (sz : Nat) (Q : QT) : Array Value → State → Outcome → State → Prop := fun _ st o t => ∃ (r : Option MV) (h2 : MH) (sz2 : Nat), o = .returned (r.map (cv E)) ∧ (∀ v, r = some v → okV v) ∧ Q r h2 sz2 ∧ RW E h2 sz2 t.heap ∧ (∀ a c, h2 a = some c → FR E h sz (eb E + a)) ∧ va_F (FR E h sz) st t
def Ct (M : MD) (d mc ms : Nat) (as : List MV) (h : MH) (sz : Nat) (Q : QT) : Prop :=
  ∀ (l : Launch) (E : Ev), Met l M.1 [.code M.1 M.2.1 M.2.2.1 M.2.2.2] ({ frames := d, cells := mc, slots := ms, locals := 40 * d }) (cPre E as h sz) (cPost E h sz Q) mc ms (FR E h sz)
/-- locals at a method's entry -/
def lsOf : List MV → List (Option MV)
  | [] => []
  | .inr (.inl z) :: t => some (vL z) :: none :: lsOf t
  | v :: t => some v :: lsOf t
end
section
theorem cv_cat (E : Ev) (v : MV) : (cv E v).category = (match v with | .inr (.inl _) => 2 | _ => 1) := by
  rcases v with z | z | o | k
  · rfl
  · rfl
  · cases o <;> rfl
  · rfl
theorem lsOf_len (E : Ev) : ∀ as : List MV, (lg_sl (as.map (cv E))).length = (lsOf as).length
  | [] => rfl
  | .inr (.inl z) :: t => by
    have ih := lsOf_len E t
    simp only [lg_sl] at ih
    simp only [List.map_cons, lg_sl, List.flatMap_cons, List.length_append, lsOf, List.length_cons, ih]
    simp [cv, Value.category]; omega
  | .inl z :: t => by
    have ih := lsOf_len E t
    simp only [lg_sl] at ih
    simp only [List.map_cons, lg_sl, List.flatMap_cons, List.length_append, lsOf, List.length_cons, ih]
    simp [cv, Value.category]; omega
  | .inr (.inr (.inl none)) :: t => by
    have ih := lsOf_len E t
    simp only [lg_sl] at ih
    simp only [List.map_cons, lg_sl, List.flatMap_cons, List.length_append, lsOf, List.length_cons, ih]
    simp [cv, Value.category]; omega
  | .inr (.inr (.inl (some a))) :: t => by
    have ih := lsOf_len E t
    simp only [lg_sl] at ih
    simp only [List.map_cons, lg_sl, List.flatMap_cons, List.length_append, lsOf, List.length_cons, ih]
    simp [cv, Value.category]; omega
  | .inr (.inr (.inr k)) :: t => by
    have ih := lsOf_len E t
    simp only [lg_sl] at ih
    simp only [List.map_cons, lg_sl, List.flatMap_cons, List.length_append, lsOf, List.length_cons, ih]
    simp [cv, Value.category]; omega
theorem lsOf_cons (v : MV) (t : List MV) : lsOf (v :: t) = (match v with | .inr (.inl z) => some (vL z) :: none :: lsOf t | w => some w :: lsOf t) := by
  rcases v with z | z | o | k <;> rfl
theorem lsOf_mem (E : Ev) : ∀ (as : List MV) (k i : Nat) (v : MV), lk (lsOf as) i = some v → (k + i, cv E v) ∈ lv_args k (as.map (cv E)) ∧ v ∈ as
  | [], k, i, v, h => by simp [lsOf, lk] at h
  | w :: t, k, i, v, h => by
    rw [List.map_cons, lv_args, cv_cat]
    rw [lsOf_cons] at h
    rcases w with z | z | o | q
    · match i, h with
      | 0, h => cases h; exact ⟨List.mem_cons_self, List.mem_cons_self⟩
      | i + 1, h =>
        have ih := lsOf_mem E t (k + 1) i v h
        refine ⟨List.mem_cons_of_mem _ ?_, List.mem_cons_of_mem _ ih.2⟩
        rw [show k + (i + 1) = k + 1 + i by omega]; exact ih.1
    · match i, h with
      | 0, h => cases h; exact ⟨List.mem_cons_self, List.mem_cons_self⟩
      | 1, h => cases h
      | i + 2, h =>
        have ih := lsOf_mem E t (k + 2) i v h
        refine ⟨List.mem_cons_of_mem _ ?_, List.mem_cons_of_mem _ ih.2⟩
        rw [show k + (i + 2) = k + 2 + i by omega]; exact ih.1
    · match i, h with
      | 0, h => cases h; exact ⟨List.mem_cons_self, List.mem_cons_self⟩
      | i + 1, h =>
        have ih := lsOf_mem E t (k + 1) i v h
        refine ⟨List.mem_cons_of_mem _ ?_, List.mem_cons_of_mem _ ih.2⟩
        rw [show k + (i + 1) = k + 1 + i by omega]; exact ih.1
    · match i, h with
      | 0, h => cases h; exact ⟨List.mem_cons_self, List.mem_cons_self⟩
      | i + 1, h =>
        have ih := lsOf_mem E t (k + 1) i v h
        refine ⟨List.mem_cons_of_mem _ ?_, List.mem_cons_of_mem _ ih.2⟩
        rw [show k + (i + 1) = k + 1 + i by omega]; exact ih.1
theorem LL_entry (E : Ev) (as : List MV) (nL : Nat) (hl : (lsOf as).length ≤ nL) (hok : ∀ v ∈ as, okV v) : LL E nL (lsOf as) ((lg_sl (as.map (cv E)) ++ List.replicate (nL - (lg_sl (as.map (cv E))).length) Slot.unset).toArray) := by
  have h := lv_entry (as.map (cv E)) (n := nL) (by rw [lsOf_len]; exact hl)
  refine ⟨h.1, h.2.1, fun i v hv => ?_⟩
  have hm := lsOf_mem E as 0 i v hv
  rw [Nat.zero_add] at hm
  exact ⟨h.2.2 _ hm.1, hok v hm.2⟩
theorem RW.lt {E : Ev} {h : MH} {sz a : Nat} {c : MC} {H : Heap} (hR : RW E h sz H) (ha : h a = some c) : a < sz := by
  have := (hR.2 a c ha).2.lt
  have h1 := hR.1
  simp only at this
  omega
theorem SF.base {E : Ev} {s : State} (h : SF E s) : eb E ≤ s.heap.size := h.2.2.2.2.2.2.2.2.1
theorem Ct.of {M : MD} {d mc ms : Nat} {as : List MV} {h : MH} {sz : Nat} {Q : QT} (hp : plainName M.1.cls = true) (hl : (lsOf as).length ≤ M.2.2.1) (hV : V M d 0 (lsOf as) [] h sz mc ms Q) : Ct M d mc ms as h sz Q := by
  intro l E
  refine Met.ofW (cc := M.2.1) (maxL := M.2.2.1) (ret := M.2.2.2) hp rfl ?_
  intro p e s m args below meth c s₁ B hml hv
  obtain ⟨rfl, hok, hSF, hRW⟩ := hv
  have hx := B.exec
  have hb := B.bytes
  have hr := B.returns
  have hown : s.vm.findClass M.1.cls = some m.cls := findClass_of_methodNamed B.named
  have hlocks := B.notSynchronized
  have hnm : meth.name = M.1.name := (name_of_methodNamed B.named B.method).1
  rw [lg_entry_eq]
  have hL := LL_entry E as M.2.2.1 hl hok
  refine hV p l e _ s m _ below meth c _ E (FR E h sz) mc ms ⟨⟨hx, hb, hml, hown, hnm⟩, hSF, ⟨fun q hq => Or.inr (by rw [← hRW.1]; exact hq), ?_⟩, ⟨Nat.le_refl _, Nat.le_refl _, Nat.le_refl _, Nat.le_refl _⟩, ?_⟩ s.heap [] 0 0 _ hRW (fun a c ha => Or.inl ⟨a, c, ha, rfl⟩) va_S.rf hL (fun v hv => by cases hv) (by omega) (by omega)
  · intro q hq
    rcases hq with ⟨a, c, -, rfl⟩ | hq
    · exact Nat.le_add_right _ _
    · omega
  · intro H locs lv pc r h2 sz2 hR2 hF2 hS2 hok2 hrt hQ hd
    have post : ∀ t : State, t.heap = H → s.WarmedH t.vm → cPost E h sz Q (as.map (cv E)).toArray s (.returned (r.map (cv E))) t := fun t ht hW => ⟨r, h2, sz2, rfl, hok2, hQ, by rw [ht]; exact hR2, hF2, by rw [ht]; exact hS2.1, by rw [ht]; exact hS2.2.1⟩
    rcases r with - | (z | z | o | k)
    · exact W.vret hx hb (by rw [hr]; exact hrt) post hS2.2.2 hd
    · rcases hrt with h1 | ⟨h1, h3⟩
      · exact W.iret hx hb (by rw [hr]; exact h1) post hS2.2.2 hd
      · refine W.zret (ty := .boolean) hx hb (by rw [hr]; exact h1) ?_ post hS2.2.2 hd
        rcases h3 with rfl | rfl <;> rfl
    · exact W.lret hx hb (by rw [hr]; exact hrt) post hS2.2.2 hd
    · have hv : cv E (.inr (.inr (.inl o))) = .null ∨ ∃ a, cv E (.inr (.inr (.inl o))) = .ref a := by
        cases o with
        | none => exact Or.inl rfl
        | some a => exact Or.inr ⟨_, rfl⟩
      rcases hrt with ⟨t, h1⟩ | ⟨t, h1⟩
      · exact W.aret (rt := .array t) hx hb (by rw [hr]; exact h1) (Or.inr ⟨t, rfl⟩) hv post hS2.2.2 hd
      · exact W.aret (rt := .object t) hx hb (by rw [hr]; exact h1) (Or.inl ⟨t, rfl⟩) hv post hS2.2.2 hd
    · have hv : cv E (.inr (.inr (.inr k))) = .null ∨ ∃ a, cv E (.inr (.inr (.inr k))) = .ref a := Or.inr ⟨_, rfl⟩
      rcases hrt with ⟨t, h1⟩ | ⟨t, h1⟩
      · exact W.aret (rt := .array t) hx hb (by rw [hr]; exact h1) (Or.inr ⟨t, rfl⟩) hv post hS2.2.2 hd
      · exact W.aret (rt := .object t) hx hb (by rw [hr]; exact h1) (Or.inl ⟨t, rfl⟩) hv post hS2.2.2 hd
end
section
/-! RULES: numbers -/
theorem i32_to {z : Int} (h : i32 z) : (Int32.ofInt z).toInt = z := Int32.toInt_ofInt_of_le h.1 h.2
theorem i64_to {z : Int} (h : i64 z) : (Int64.ofInt z).toInt = z := Int64.toInt_ofInt_of_le h.1 h.2
theorem i32_eq {x y : Int} (hx : i32 x) (hy : i32 y) : Int32.ofInt x = Int32.ofInt y ↔ x = y := by rw [← Int32.toInt_inj, i32_to hx, i32_to hy]
theorem i32_lt {x y : Int} (hx : i32 x) (hy : i32 y) : Int32.ofInt x < Int32.ofInt y ↔ x < y := by rw [Int32.lt_iff_toInt_lt, i32_to hx, i32_to hy]
theorem i32_le {x y : Int} (hx : i32 x) (hy : i32 y) : Int32.ofInt x ≤ Int32.ofInt y ↔ x ≤ y := by rw [Int32.le_iff_toInt_le, i32_to hx, i32_to hy]
theorem i64_eq {x y : Int} (hx : i64 x) (hy : i64 y) : Int64.ofInt x = Int64.ofInt y ↔ x = y := by rw [← Int64.toInt_inj, i64_to hx, i64_to hy]
theorem i64_lt {x y : Int} (hx : i64 x) (hy : i64 y) : Int64.ofInt x < Int64.ofInt y ↔ x < y := by rw [Int64.lt_iff_toInt_lt, i64_to hx, i64_to hy]
theorem i32_0 : i32 0 := by unfold i32; omega
theorem i32_cl {z : Int} (h : i32 z) : (Int32.ofInt z).toNatClampNeg = z.toNat := Int32.toNatClampNeg_ofInt_of_le h.1 h.2
theorem i32_in {z : Int} {n : Nat} (h : i32 z) (h0 : 0 ≤ z) (h1 : z < n) : ¬ (Int32.ofInt z < 0 ∨ n ≤ (Int32.ofInt z).toNatClampNeg) := by
  rw [show (0 : Int32) = Int32.ofInt 0 from rfl, i32_lt h i32_0, i32_cl h]; omega
theorem i32_i64 {z : Int} (h : i32 z) : i64 z := by unfold i32 at h; unfold i64; omega
theorem i32_wide {z : Int} (h : i32 z) : (Int32.ofInt z).toInt64 = Int64.ofInt z := by
  rw [← Int64.toInt_inj, Int32.toInt_toInt64, i32_to h, i64_to (i32_i64 h)]
theorem i64_nar {z : Int} : (Int64.ofInt z).toInt32 = Int32.ofInt z := Int64.toInt32_ofInt
theorem i32_div {x y : Int} (hx : i32 x) (hy : i32 y) (h0 : 0 ≤ x) (h1 : 0 < y) : Int32.ofInt x / Int32.ofInt y = Int32.ofInt (x / y) := by
  have hd : i32 (x / y) := by
    have a := Int.ediv_nonneg h0 (Int.le_of_lt h1)
    have b := Int.ediv_le_self y h0
    unfold i32 at *; omega
  have hne : Int32.ofInt y ≠ -1 := by
    intro q
    have : Int32.ofInt y = Int32.ofInt (-1) := q
    rw [i32_eq hy (by unfold i32; omega)] at this; omega
  rw [← Int32.toInt_inj, Int32.toInt_div_of_ne_right _ _ hne, i32_to hx, i32_to hy, i32_to hd, Int.tdiv_eq_ediv_of_nonneg h0]
theorem i32_rem {x y : Int} (hx : i32 x) (hy : i32 y) (h0 : 0 ≤ x) (h1 : 0 < y) : Int32.ofInt x - Int32.ofInt x / Int32.ofInt y * Int32.ofInt y = Int32.ofInt (x % y) := by
  rw [i32_div hx hy h0 h1, ← Int32.ofInt_mul, ← Int32.ofInt_sub]
  congr 1
  have := Int.mul_ediv_add_emod x y
  rw [Int.mul_comm]; omega
theorem bm_rng (x : Int) (m : Nat) (hm : 0 < m) : -(m : Int) ≤ 2 * x.bmod m ∧ 2 * x.bmod m < m := by
  have h1 := Int.le_bmod (x := x) hm
  have h2 := Int.bmod_lt (x := x) hm
  omega
theorem i32_bmod8 (x : Int) : i32 (x.bmod 256) := by have := bm_rng x 256 (by omega); unfold i32; omega
theorem i32_bmod16 (x : Int) : i32 (x.bmod 65536) := by have := bm_rng x 65536 (by omega); unfold i32; omega
theorem i32_b {x : Int} : (Int32.ofInt x).toInt8.toInt32 = Int32.ofInt (x.bmod 256) := by
  rw [← Int32.toInt_inj, Int8.toInt_toInt32, Int32.toInt8_ofInt, i32_to (i32_bmod8 x), Int8.toInt_ofInt]
theorem i32_s {x : Int} : (Int32.ofInt x).toInt16.toInt32 = Int32.ofInt (x.bmod 65536) := by
  rw [← Int32.toInt_inj, Int16.toInt_toInt32, Int32.toInt16_ofInt, i32_to (i32_bmod16 x), Int16.toInt_ofInt]
def lc (x y : Int) : Int := if y < x then 1 else if x = y then 0 else -1
theorem lc_rng (x y : Int) : i32 (lc x y) := by unfold lc i32; split <;> (try split) <;> omega
theorem lc_ok {x y : Int} (hx : i64 x) (hy : i64 y) : lg_cmp (Int64.ofInt x) (Int64.ofInt y) = Int32.ofInt (lc x y) := by
  unfold lg_cmp lc
  simp only [gt_iff_lt, i64_lt hy hx, i64_eq hx hy]
  split
  · rfl
  · split <;> rfl
/-! RULES: the stack alone -/
def StepS (M : MD) (pc pc2 : Nat) (st st2 : List MV) : Prop := ∀ (p : Program) (l : Launch) (e : Env) (R : Room) (s : State) (m : MethodId) (args : Array Value) (below : List Frame) (meth : Method) (c : Code) (Z : State → Prop) (E : Ev) (H : Heap) (locs : List Loc) (cells slots : Nat) (lv : Array Slot),
  p.tables.exec = Jvm.exec → c.code = M.2.1 → (∀ v ∈ st, okV v) → W p l e R s m args below meth c H locs cells slots Z (F0 m pc2 lv (st2.map (cv E))) → W p l e R s m args below meth c H locs cells slots Z (F0 m pc lv (st.map (cv E)))
theorem V.st {M : MD} {d pc pc2 : Nat} {ls : List (Option MV)} {st st2 : List MV} {h : MH} {sz kc ks : Nat} {Q : QT} (hs : StepS M pc pc2 st st2) (hok : (∀ v ∈ st, okV v) → ∀ v ∈ st2, okV v) (k : V M d pc2 ls st2 h sz kc ks Q) : V M d pc ls st h sz kc ks Q := by
  intro p l e R s m args below meth c Z E F cM sM C H locs cells slots lv hR hF hS hL hst h1 h2
  exact hs p l e R s m args below meth c Z E H locs cells slots lv C.1.1 C.1.2.1 hst (k p l e R s m args below meth c Z E F cM sM C H locs cells slots lv hR hF hS hL (hok hst) h1 h2)
theorem ok1 {v w : MV} {st : List MV} (hw : okV v → okV w) (h : ∀ u ∈ v :: st, okV u) : ∀ u ∈ w :: st, okV u := by
  intro u hu
  rcases List.mem_cons.mp hu with rfl | hu
  · exact hw (h _ List.mem_cons_self)
  · exact h _ (List.mem_cons_of_mem _ hu)
theorem okp {v : MV} {st : List MV} (hw : okV v) (h : ∀ u ∈ st, okV u) : ∀ u ∈ v :: st, okV u := by
  intro u hu
  rcases List.mem_cons.mp hu with rfl | hu
  · exact hw
  · exact h _ hu
theorem okt {v : MV} {st : List MV} (h : ∀ u ∈ v :: st, okV u) : ∀ u ∈ st, okV u := fun u hu => h _ (List.mem_cons_of_mem _ hu)
theorem okh {v : MV} {st : List MV} (h : ∀ u ∈ v :: st, okV u) : okV v := h _ List.mem_cons_self

theorem V.iadd {M : MD} {d pc : Nat} {ls : List (Option MV)} {st : List MV} {h : MH} {sz kc ks : Nat} {Q : QT} {x y : Int} (hd : decode M.2.1 pc = .ok (.iadd, 1)) (hz : i32 (x + y)) (k : V M d (pc + 1) ls (vI (x + y) :: st) h sz kc ks Q) : V M d pc ls (vI y :: vI x :: st) h sz kc ks Q := by
  refine V.st (pc2 := (pc + 1)) (st2 := vI (x + y) :: st) ?_ ?_ k
  · intro p l e R s m args below meth c Z E H locs cells slots lv hx hb hst k
    refine lv_iadd hx hb hd ?_
    rw [← Int32.ofInt_add]; exact k
  · intro hst
    exact okp hz (okt (okt hst))
theorem V.isub {M : MD} {d pc : Nat} {ls : List (Option MV)} {st : List MV} {h : MH} {sz kc ks : Nat} {Q : QT} {x y : Int} (hd : decode M.2.1 pc = .ok (.isub, 1)) (hz : i32 (x - y)) (k : V M d (pc + 1) ls (vI (x - y) :: st) h sz kc ks Q) : V M d pc ls (vI y :: vI x :: st) h sz kc ks Q := by
  refine V.st (pc2 := (pc + 1)) (st2 := vI (x - y) :: st) ?_ ?_ k
  · intro p l e R s m args below meth c Z E H locs cells slots lv hx hb hst k
    refine lv_isub hx hb hd ?_
    rw [← Int32.ofInt_sub]; exact k
  · intro hst
    exact okp hz (okt (okt hst))
theorem V.imul {M : MD} {d pc : Nat} {ls : List (Option MV)} {st : List MV} {h : MH} {sz kc ks : Nat} {Q : QT} {x y : Int} (hd : decode M.2.1 pc = .ok (.imul, 1)) (hz : i32 (x * y)) (k : V M d (pc + 1) ls (vI (x * y) :: st) h sz kc ks Q) : V M d pc ls (vI y :: vI x :: st) h sz kc ks Q := by
  refine V.st (pc2 := (pc + 1)) (st2 := vI (x * y) :: st) ?_ ?_ k
  · intro p l e R s m args below meth c Z E H locs cells slots lv hx hb hst k
    refine lv_imul hx hb hd ?_
    rw [← Int32.ofInt_mul]; exact k
  · intro hst
    exact okp hz (okt (okt hst))
theorem V.ladd {M : MD} {d pc : Nat} {ls : List (Option MV)} {st : List MV} {h : MH} {sz kc ks : Nat} {Q : QT} {x y : Int} (hd : decode M.2.1 pc = .ok (.ladd, 1)) (hz : i64 (x + y)) (k : V M d (pc + 1) ls (vL (x + y) :: st) h sz kc ks Q) : V M d pc ls (vL y :: vL x :: st) h sz kc ks Q := by
  refine V.st (pc2 := (pc + 1)) (st2 := vL (x + y) :: st) ?_ ?_ k
  · intro p l e R s m args below meth c Z E H locs cells slots lv hx hb hst k
    refine lv_ladd hx hb hd ?_
    rw [← Int64.ofInt_add]; exact k
  · intro hst
    exact okp hz (okt (okt hst))
theorem V.lsub {M : MD} {d pc : Nat} {ls : List (Option MV)} {st : List MV} {h : MH} {sz kc ks : Nat} {Q : QT} {x y : Int} (hd : decode M.2.1 pc = .ok (.lsub, 1)) (hz : i64 (x - y)) (k : V M d (pc + 1) ls (vL (x - y) :: st) h sz kc ks Q) : V M d pc ls (vL y :: vL x :: st) h sz kc ks Q := by
  refine V.st (pc2 := (pc + 1)) (st2 := vL (x - y) :: st) ?_ ?_ k
  · intro p l e R s m args below meth c Z E H locs cells slots lv hx hb hst k
    refine lv_lsub hx hb hd ?_
    rw [← Int64.ofInt_sub]; exact k
  · intro hst
    exact okp hz (okt (okt hst))
theorem V.lmul {M : MD} {d pc : Nat} {ls : List (Option MV)} {st : List MV} {h : MH} {sz kc ks : Nat} {Q : QT} {x y : Int} (hd : decode M.2.1 pc = .ok (.lmul, 1)) (hz : i64 (x * y)) (k : V M d (pc + 1) ls (vL (x * y) :: st) h sz kc ks Q) : V M d pc ls (vL y :: vL x :: st) h sz kc ks Q := by
  refine V.st (pc2 := (pc + 1)) (st2 := vL (x * y) :: st) ?_ ?_ k
  · intro p l e R s m args below meth c Z E H locs cells slots lv hx hb hst k
    refine lv_lmul hx hb hd ?_
    rw [← Int64.ofInt_mul]; exact k
  · intro hst
    exact okp hz (okt (okt hst))
theorem V.ineg {M : MD} {d pc : Nat} {ls : List (Option MV)} {st : List MV} {h : MH} {sz kc ks : Nat} {Q : QT} {x : Int} (hd : decode M.2.1 pc = .ok (.ineg, 1)) (hz : i32 (-x)) (k : V M d (pc + 1) ls (vI (-x) :: st) h sz kc ks Q) : V M d pc ls (vI x :: st) h sz kc ks Q := by
  refine V.st (pc2 := (pc + 1)) (st2 := vI (-x) :: st) ?_ ?_ k
  · intro p l e R s m args below meth c Z E H locs cells slots lv hx hb hst k
    refine lv_ineg hx hb hd ?_
    rw [← Int32.ofInt_neg]; exact k
  · intro hst
    exact okp hz (okt hst)
theorem V.idiv {M : MD} {d pc : Nat} {ls : List (Option MV)} {st : List MV} {h : MH} {sz kc ks : Nat} {Q : QT} {x y : Int} (hd : decode M.2.1 pc = .ok (.idiv, 1)) (h0 : 0 ≤ x) (h1 : 0 < y) (k : V M d (pc + 1) ls (vI (x / y) :: st) h sz kc ks Q) : V M d pc ls (vI y :: vI x :: st) h sz kc ks Q := by
  refine V.st (pc2 := (pc + 1)) (st2 := vI (x / y) :: st) ?_ ?_ k
  · intro p l e R s m args below meth c Z E H locs cells slots lv hx hb hst k
    have hy : i32 y := okh hst
    have hxx : i32 x := okh (okt hst)
    refine lv_idiv hx hb hd ?_ ?_
    · intro q
      have q2 : Int32.ofInt y = Int32.ofInt 0 := q
      rw [i32_eq hy i32_0] at q2; omega
    · rw [i32_div hxx hy h0 h1]; exact k
  · intro hst
    have hy : i32 y := okh hst
    have hxx : i32 x := okh (okt hst)
    refine okp (v := vI (x / y)) ?_ (okt (okt hst))
    have a1 := Int.ediv_nonneg h0 (Int.le_of_lt h1)
    have a2 := Int.ediv_le_self y h0
    have a3 := Int.emod_nonneg x (by omega : y ≠ 0)
    have a4 := Int.emod_lt_of_pos x h1
    show i32 _
    unfold i32 at *; omega
theorem V.irem {M : MD} {d pc : Nat} {ls : List (Option MV)} {st : List MV} {h : MH} {sz kc ks : Nat} {Q : QT} {x y : Int} (hd : decode M.2.1 pc = .ok (.irem, 1)) (h0 : 0 ≤ x) (h1 : 0 < y) (k : V M d (pc + 1) ls (vI (x % y) :: st) h sz kc ks Q) : V M d pc ls (vI y :: vI x :: st) h sz kc ks Q := by
  refine V.st (pc2 := (pc + 1)) (st2 := vI (x % y) :: st) ?_ ?_ k
  · intro p l e R s m args below meth c Z E H locs cells slots lv hx hb hst k
    have hy : i32 y := okh hst
    have hxx : i32 x := okh (okt hst)
    refine lv_irem hx hb hd ?_ ?_
    · intro q
      have q2 : Int32.ofInt y = Int32.ofInt 0 := q
      rw [i32_eq hy i32_0] at q2; omega
    · rw [i32_rem hxx hy h0 h1]; exact k
  · intro hst
    have hy : i32 y := okh hst
    have hxx : i32 x := okh (okt hst)
    refine okp (v := vI (x % y)) ?_ (okt (okt hst))
    have a1 := Int.ediv_nonneg h0 (Int.le_of_lt h1)
    have a2 := Int.ediv_le_self y h0
    have a3 := Int.emod_nonneg x (by omega : y ≠ 0)
    have a4 := Int.emod_lt_of_pos x h1
    show i32 _
    unfold i32 at *; omega
theorem V.iand {M : MD} {d pc : Nat} {ls : List (Option MV)} {st : List MV} {h : MH} {sz kc ks : Nat} {Q : QT} {x y : Int} (z : Int) (hd : decode M.2.1 pc = .ok (.iand, 1)) (hz : i32 x → i32 y → Int32.ofInt x &&& Int32.ofInt y = Int32.ofInt z ∧ i32 z) (k : V M d (pc + 1) ls (vI z :: st) h sz kc ks Q) : V M d pc ls (vI y :: vI x :: st) h sz kc ks Q := by
  refine V.st (pc2 := (pc + 1)) (st2 := vI z :: st) ?_ ?_ k
  · intro p l e R s m args below meth c Z E H locs cells slots lv hx hb hst k
    refine lv_iand hx hb hd ?_
    rw [(hz (okh (okt hst)) (okh hst)).1]; exact k
  · intro hst
    exact okp (hz (okh (okt hst)) (okh hst)).2 (okt (okt hst))
theorem V.ior {M : MD} {d pc : Nat} {ls : List (Option MV)} {st : List MV} {h : MH} {sz kc ks : Nat} {Q : QT} {x y : Int} (z : Int) (hd : decode M.2.1 pc = .ok (.ior, 1)) (hz : i32 x → i32 y → Int32.ofInt x ||| Int32.ofInt y = Int32.ofInt z ∧ i32 z) (k : V M d (pc + 1) ls (vI z :: st) h sz kc ks Q) : V M d pc ls (vI y :: vI x :: st) h sz kc ks Q := by
  refine V.st (pc2 := (pc + 1)) (st2 := vI z :: st) ?_ ?_ k
  · intro p l e R s m args below meth c Z E H locs cells slots lv hx hb hst k
    refine lv_ior hx hb hd ?_
    rw [(hz (okh (okt hst)) (okh hst)).1]; exact k
  · intro hst
    exact okp (hz (okh (okt hst)) (okh hst)).2 (okt (okt hst))
theorem V.land {M : MD} {d pc : Nat} {ls : List (Option MV)} {st : List MV} {h : MH} {sz kc ks : Nat} {Q : QT} {x y : Int} (z : Int) (hd : decode M.2.1 pc = .ok (.land, 1)) (hz : i64 x → i64 y → Int64.ofInt x &&& Int64.ofInt y = Int64.ofInt z ∧ i64 z) (k : V M d (pc + 1) ls (vL z :: st) h sz kc ks Q) : V M d pc ls (vL y :: vL x :: st) h sz kc ks Q := by
  refine V.st (pc2 := (pc + 1)) (st2 := vL z :: st) ?_ ?_ k
  · intro p l e R s m args below meth c Z E H locs cells slots lv hx hb hst k
    refine lv_land hx hb hd ?_
    rw [(hz (okh (okt hst)) (okh hst)).1]; exact k
  · intro hst
    exact okp (hz (okh (okt hst)) (okh hst)).2 (okt (okt hst))
theorem V.lor {M : MD} {d pc : Nat} {ls : List (Option MV)} {st : List MV} {h : MH} {sz kc ks : Nat} {Q : QT} {x y : Int} (z : Int) (hd : decode M.2.1 pc = .ok (.lor, 1)) (hz : i64 x → i64 y → Int64.ofInt x ||| Int64.ofInt y = Int64.ofInt z ∧ i64 z) (k : V M d (pc + 1) ls (vL z :: st) h sz kc ks Q) : V M d pc ls (vL y :: vL x :: st) h sz kc ks Q := by
  refine V.st (pc2 := (pc + 1)) (st2 := vL z :: st) ?_ ?_ k
  · intro p l e R s m args below meth c Z E H locs cells slots lv hx hb hst k
    refine lv_lor hx hb hd ?_
    rw [(hz (okh (okt hst)) (okh hst)).1]; exact k
  · intro hst
    exact okp (hz (okh (okt hst)) (okh hst)).2 (okt (okt hst))
theorem V.ishl {M : MD} {d pc : Nat} {ls : List (Option MV)} {st : List MV} {h : MH} {sz kc ks : Nat} {Q : QT} {x y : Int} (z : Int) (hd : decode M.2.1 pc = .ok (.ishl, 1)) (hz : i32 x → i32 y → Int32.ofInt x <<< (Int32.ofInt y &&& 31) = Int32.ofInt z ∧ i32 z) (k : V M d (pc + 1) ls (vI z :: st) h sz kc ks Q) : V M d pc ls (vI y :: vI x :: st) h sz kc ks Q := by
  refine V.st (pc2 := (pc + 1)) (st2 := vI z :: st) ?_ ?_ k
  · intro p l e R s m args below meth c Z E H locs cells slots lv hx hb hst k
    refine lv_ishl hx hb hd ?_
    rw [(hz (okh (okt hst)) (okh hst)).1]; exact k
  · intro hst
    exact okp (hz (okh (okt hst)) (okh hst)).2 (okt (okt hst))
theorem V.ishr {M : MD} {d pc : Nat} {ls : List (Option MV)} {st : List MV} {h : MH} {sz kc ks : Nat} {Q : QT} {x y : Int} (z : Int) (hd : decode M.2.1 pc = .ok (.ishr, 1)) (hz : i32 x → i32 y → Int32.ofInt x >>> (Int32.ofInt y &&& 31) = Int32.ofInt z ∧ i32 z) (k : V M d (pc + 1) ls (vI z :: st) h sz kc ks Q) : V M d pc ls (vI y :: vI x :: st) h sz kc ks Q := by
  refine V.st (pc2 := (pc + 1)) (st2 := vI z :: st) ?_ ?_ k
  · intro p l e R s m args below meth c Z E H locs cells slots lv hx hb hst k
    refine lv_ishr hx hb hd ?_
    rw [(hz (okh (okt hst)) (okh hst)).1]; exact k
  · intro hst
    exact okp (hz (okh (okt hst)) (okh hst)).2 (okt (okt hst))
theorem V.lshl {M : MD} {d pc : Nat} {ls : List (Option MV)} {st : List MV} {h : MH} {sz kc ks : Nat} {Q : QT} {x y : Int} (z : Int) (hd : decode M.2.1 pc = .ok (.lshl, 1)) (hz : i64 x → i32 y → Int64.ofInt x <<< (Int64.ofInt y &&& 63) = Int64.ofInt z ∧ i64 z) (k : V M d (pc + 1) ls (vL z :: st) h sz kc ks Q) : V M d pc ls (vI y :: vL x :: st) h sz kc ks Q := by
  refine V.st (pc2 := (pc + 1)) (st2 := vL z :: st) ?_ ?_ k
  · intro p l e R s m args below meth c Z E H locs cells slots lv hx hb hst k
    refine lv_lshl hx hb hd ?_ k
    rw [i32_wide (okh hst)]; exact (hz (okh (okt hst)) (okh hst)).1
  · intro hst
    exact okp (hz (okh (okt hst)) (okh hst)).2 (okt (okt hst))
theorem V.lshr {M : MD} {d pc : Nat} {ls : List (Option MV)} {st : List MV} {h : MH} {sz kc ks : Nat} {Q : QT} {x y : Int} (z : Int) (hd : decode M.2.1 pc = .ok (.lshr, 1)) (hz : i64 x → i32 y → Int64.ofInt x >>> (Int64.ofInt y &&& 63) = Int64.ofInt z ∧ i64 z) (k : V M d (pc + 1) ls (vL z :: st) h sz kc ks Q) : V M d pc ls (vI y :: vL x :: st) h sz kc ks Q := by
  refine V.st (pc2 := (pc + 1)) (st2 := vL z :: st) ?_ ?_ k
  · intro p l e R s m args below meth c Z E H locs cells slots lv hx hb hst k
    refine lv_lshr hx hb hd ?_ k
    rw [i32_wide (okh hst)]; exact (hz (okh (okt hst)) (okh hst)).1
  · intro hst
    exact okp (hz (okh (okt hst)) (okh hst)).2 (okt (okt hst))
theorem V.lushr {M : MD} {d pc : Nat} {ls : List (Option MV)} {st : List MV} {h : MH} {sz kc ks : Nat} {Q : QT} {x y : Int} (z : Int) (hd : decode M.2.1 pc = .ok (.lushr, 1)) (hz : i64 x → i32 y → ((Int64.ofInt x).toUInt64 >>> ((Int64.ofInt y).toUInt64 &&& Int64.toUInt64 63)).toInt64 = Int64.ofInt z ∧ i64 z) (k : V M d (pc + 1) ls (vL z :: st) h sz kc ks Q) : V M d pc ls (vI y :: vL x :: st) h sz kc ks Q := by
  refine V.st (pc2 := (pc + 1)) (st2 := vL z :: st) ?_ ?_ k
  · intro p l e R s m args below meth c Z E H locs cells slots lv hx hb hst k
    refine lv_lushr hx hb hd ?_ k
    rw [i32_wide (okh hst)]; exact (hz (okh (okt hst)) (okh hst)).1
  · intro hst
    exact okp (hz (okh (okt hst)) (okh hst)).2 (okt (okt hst))
theorem V.i2l {M : MD} {d pc : Nat} {ls : List (Option MV)} {st : List MV} {h : MH} {sz kc ks : Nat} {Q : QT} {x : Int} (hd : decode M.2.1 pc = .ok (.i2l, 1)) (k : V M d (pc + 1) ls (vL x :: st) h sz kc ks Q) : V M d pc ls (vI x :: st) h sz kc ks Q := by
  refine V.st (pc2 := (pc + 1)) (st2 := vL x :: st) ?_ ?_ k
  · intro p l e R s m args below meth c Z E H locs cells slots lv hx hb hst k
    exact lv_i2l hx hb hd (i32_wide (okh hst)) k
  · intro hst
    exact okp (v := vL x) (i32_i64 (okh hst)) (okt hst)
theorem V.l2i {M : MD} {d pc : Nat} {ls : List (Option MV)} {st : List MV} {h : MH} {sz kc ks : Nat} {Q : QT} {x : Int} (hd : decode M.2.1 pc = .ok (.l2i, 1)) (hz : i32 x) (k : V M d (pc + 1) ls (vI x :: st) h sz kc ks Q) : V M d pc ls (vL x :: st) h sz kc ks Q := by
  refine V.st (pc2 := (pc + 1)) (st2 := vI x :: st) ?_ ?_ k
  · intro p l e R s m args below meth c Z E H locs cells slots lv hx hb hst k
    exact lv_l2i hx hb hd i64_nar k
  · intro hst
    exact okp (v := vI x) hz (okt hst)
theorem V.i2b {M : MD} {d pc : Nat} {ls : List (Option MV)} {st : List MV} {h : MH} {sz kc ks : Nat} {Q : QT} {x : Int} (hd : decode M.2.1 pc = .ok (.i2b, 1)) (k : V M d (pc + 1) ls (vI (x.bmod 256) :: st) h sz kc ks Q) : V M d pc ls (vI x :: st) h sz kc ks Q := by
  refine V.st (pc2 := (pc + 1)) (st2 := vI (x.bmod 256) :: st) ?_ ?_ k
  · intro p l e R s m args below meth c Z E H locs cells slots lv hx hb hst k
    exact lv_i2b hx hb hd i32_b k
  · intro hst
    exact okp (v := vI _) (i32_bmod8 x) (okt hst)
theorem V.i2s {M : MD} {d pc : Nat} {ls : List (Option MV)} {st : List MV} {h : MH} {sz kc ks : Nat} {Q : QT} {x : Int} (hd : decode M.2.1 pc = .ok (.i2s, 1)) (k : V M d (pc + 1) ls (vI (x.bmod 65536) :: st) h sz kc ks Q) : V M d pc ls (vI x :: st) h sz kc ks Q := by
  refine V.st (pc2 := (pc + 1)) (st2 := vI (x.bmod 65536) :: st) ?_ ?_ k
  · intro p l e R s m args below meth c Z E H locs cells slots lv hx hb hst k
    exact lv_i2s hx hb hd i32_s k
  · intro hst
    exact okp (v := vI _) (i32_bmod16 x) (okt hst)
theorem V.lcmp {M : MD} {d pc : Nat} {ls : List (Option MV)} {st : List MV} {h : MH} {sz kc ks : Nat} {Q : QT} {x y : Int} (hd : decode M.2.1 pc = .ok (.lcmp, 1)) (k : V M d (pc + 1) ls (vI (lc x y) :: st) h sz kc ks Q) : V M d pc ls (vL y :: vL x :: st) h sz kc ks Q := by
  refine V.st (pc2 := (pc + 1)) (st2 := vI (lc x y) :: st) ?_ ?_ k
  · intro p l e R s m args below meth c Z E H locs cells slots lv hx hb hst k
    refine W.lcmp hx hb hd ?_
    rw [lc_ok (okh (okt hst)) (okh hst)]; exact k
  · intro hst
    exact okp (v := vI _) (lc_rng x y) (okt (okt hst))
theorem V.iconst {M : MD} {d pc : Nat} {ls : List (Option MV)} {st : List MV} {h : MH} {sz kc ks : Nat} {Q : QT} {n : Int} (hd : decode M.2.1 pc = .ok (.iconst n, 1)) (hz : i32 n) (k : V M d (pc + 1) ls (vI n :: st) h sz kc ks Q) : V M d pc ls (st) h sz kc ks Q := by
  refine V.st (pc2 := (pc + 1)) (st2 := vI n :: st) ?_ ?_ k
  · intro p l e R s m args below meth c Z E H locs cells slots lv hx hb hst k
    exact lv_iconst hx hb hd rfl k
  · intro hst
    exact okp (v := vI n) hz hst
theorem V.bipush {M : MD} {d pc : Nat} {ls : List (Option MV)} {st : List MV} {h : MH} {sz kc ks : Nat} {Q : QT} {n : Int} (hd : decode M.2.1 pc = .ok (.bipush n, 2)) (hz : -128 ≤ n ∧ n < 128) (k : V M d (pc + 2) ls (vI n :: st) h sz kc ks Q) : V M d pc ls (st) h sz kc ks Q := by
  refine V.st (pc2 := (pc + 2)) (st2 := vI n :: st) ?_ ?_ k
  · intro p l e R s m args below meth c Z E H locs cells slots lv hx hb hst k
    exact lv_bipush hx hb hd (Int8.toInt32_ofInt (by show (-128 : Int) ≤ n; exact hz.1) (by show n ≤ (127 : Int); omega)) k
  · intro hst
    exact okp (v := vI n) (by unfold okV i32; omega) hst
theorem V.sipush {M : MD} {d pc : Nat} {ls : List (Option MV)} {st : List MV} {h : MH} {sz kc ks : Nat} {Q : QT} {n : Int} (hd : decode M.2.1 pc = .ok (.sipush n, 3)) (hz : -32768 ≤ n ∧ n < 32768) (k : V M d (pc + 3) ls (vI n :: st) h sz kc ks Q) : V M d pc ls (st) h sz kc ks Q := by
  refine V.st (pc2 := (pc + 3)) (st2 := vI n :: st) ?_ ?_ k
  · intro p l e R s m args below meth c Z E H locs cells slots lv hx hb hst k
    exact lv_sipush hx hb hd (Int16.toInt32_ofInt (by show (-32768 : Int) ≤ n; exact hz.1) (by show n ≤ (32767 : Int); omega)) k
  · intro hst
    exact okp (v := vI n) (by unfold okV i32; omega) hst
theorem V.lconst0 {M : MD} {d pc : Nat} {ls : List (Option MV)} {st : List MV} {h : MH} {sz kc ks : Nat} {Q : QT} (hd : decode M.2.1 pc = .ok (.lconst 0, 1)) (k : V M d (pc + 1) ls (vL 0 :: st) h sz kc ks Q) : V M d pc ls (st) h sz kc ks Q := by
  refine V.st (pc2 := (pc + 1)) (st2 := vL 0 :: st) ?_ ?_ k
  · intro p l e R s m args below meth c Z E H locs cells slots lv hx hb hst k
    exact lv_lconst hx hb hd rfl k
  · intro hst
    exact okp (v := vL 0) (by unfold okV i64; omega) hst
theorem V.lconst1 {M : MD} {d pc : Nat} {ls : List (Option MV)} {st : List MV} {h : MH} {sz kc ks : Nat} {Q : QT} (hd : decode M.2.1 pc = .ok (.lconst 1, 1)) (k : V M d (pc + 1) ls (vL 1 :: st) h sz kc ks Q) : V M d pc ls (st) h sz kc ks Q := by
  refine V.st (pc2 := (pc + 1)) (st2 := vL 1 :: st) ?_ ?_ k
  · intro p l e R s m args below meth c Z E H locs cells slots lv hx hb hst k
    exact lv_lconst hx hb hd rfl k
  · intro hst
    exact okp (v := vL 1) (by unfold okV i64; omega) hst
theorem V.anull {M : MD} {d pc : Nat} {ls : List (Option MV)} {st : List MV} {h : MH} {sz kc ks : Nat} {Q : QT} (hd : decode M.2.1 pc = .ok (.aconst_null, 1)) (k : V M d (pc + 1) ls (vN :: st) h sz kc ks Q) : V M d pc ls (st) h sz kc ks Q := by
  refine V.st (pc2 := (pc + 1)) (st2 := vN :: st) ?_ ?_ k
  · intro p l e R s m args below meth c Z E H locs cells slots lv hx hb hst k
    exact lv_null hx hb hd k
  · intro hst
    exact okp (v := vN) trivial hst
theorem V.dup {M : MD} {d pc : Nat} {ls : List (Option MV)} {st : List MV} {h : MH} {sz kc ks : Nat} {Q : QT} {v : MV} (hd : decode M.2.1 pc = .ok (.dup, 1)) (hc : ∀ E, (cv E v).category = 1) (k : V M d (pc + 1) ls (v :: v :: st) h sz kc ks Q) : V M d pc ls (v :: st) h sz kc ks Q := by
  refine V.st (pc2 := (pc + 1)) (st2 := v :: v :: st) ?_ ?_ k
  · intro p l e R s m args below meth c Z E H locs cells slots lv hx hb hst k
    exact lv_dup hx hb hd (hc E) k
  · intro hst
    exact okp (okh hst) hst
theorem V.dup2 {M : MD} {d pc : Nat} {ls : List (Option MV)} {st : List MV} {h : MH} {sz kc ks : Nat} {Q : QT} {v w : MV} (hd : decode M.2.1 pc = .ok (.dup2, 1)) (hc : ∀ E, (cv E v).category = 1) (hc2 : ∀ E, (cv E w).category = 1) (k : V M d (pc + 1) ls (v :: w :: v :: w :: st) h sz kc ks Q) : V M d pc ls (v :: w :: st) h sz kc ks Q := by
  refine V.st (pc2 := (pc + 1)) (st2 := v :: w :: v :: w :: st) ?_ ?_ k
  · intro p l e R s m args below meth c Z E H locs cells slots lv hx hb hst k
    exact lv_dup2_11 hx hb hd (hc E) (hc2 E) k
  · intro hst
    exact okp (okh hst) (okp (okh (okt hst)) hst)
theorem V.pop {M : MD} {d pc : Nat} {ls : List (Option MV)} {st : List MV} {h : MH} {sz kc ks : Nat} {Q : QT} {v : MV} (hd : decode M.2.1 pc = .ok (.pop, 1)) (hc : ∀ E, (cv E v).category = 1) (k : V M d (pc + 1) ls (st) h sz kc ks Q) : V M d pc ls (v :: st) h sz kc ks Q := by
  refine V.st (pc2 := (pc + 1)) (st2 := st) ?_ ?_ k
  · intro p l e R s m args below meth c Z E H locs cells slots lv hx hb hst k
    exact lv_pop hx hb hd (hc E) k
  · intro hst
    exact okt hst
theorem V.goto {M : MD} {d pc : Nat} {ls : List (Option MV)} {st : List MV} {h : MH} {sz kc ks : Nat} {Q : QT} {off : Int} {tgt : Nat} (hd : decode M.2.1 pc = .ok (.goto off, 3)) (ht : (pc : Int) + off = (tgt : Int)) (k : V M d tgt ls (st) h sz kc ks Q) : V M d pc ls (st) h sz kc ks Q := by
  refine V.st (pc2 := tgt) (st2 := st) ?_ ?_ k
  · intro p l e R s m args below meth c Z E H locs cells slots lv hx hb hst k
    exact lv_goto hx hb hd ht k
  · intro hst
    exact hst
/-! RULES: branches -/
theorem V.icmp_eq {M : MD} {d pc : Nat} {ls : List (Option MV)} {st : List MV} {h : MH} {sz kc ks : Nat} {Q : QT} {x y : Int} {off : Int} {tgt : Nat} (hd : decode M.2.1 pc = .ok (.if_icmp .eq off, 3)) (ht : (pc : Int) + off = (tgt : Int)) (kt : x = y → V M d tgt ls st h sz kc ks Q) (kf : x ≠ y → V M d (pc + 3) ls st h sz kc ks Q) : V M d pc ls (vI y :: vI x :: st) h sz kc ks Q := by
  intro p l e R s m args below meth c Z E F cM sM C H locs cells slots lv hR hF hS hL hst h1 h2
  obtain ⟨⟨hx, hb, hml, hown, hnm⟩, hSF, hFF, hrm, hret⟩ := id C
  have hyy : i32 y := okh hst
  have hxx : i32 x := okh (okt hst)
  refine lv_icmp_eq hx hb hd ht (fun cc => ?_) (fun cc => ?_)
  · exact kt (by simp only [i32_eq hxx hyy, ne_eq] at cc ⊢; omega) p l e R s m args below meth c Z E F cM sM C H locs cells slots lv hR hF hS hL (okt (okt hst)) h1 h2
  · exact kf (by simp only [i32_eq hxx hyy, ne_eq] at cc ⊢; omega) p l e R s m args below meth c Z E F cM sM C H locs cells slots lv hR hF hS hL (okt (okt hst)) h1 h2
theorem V.if_eq {M : MD} {d pc : Nat} {ls : List (Option MV)} {st : List MV} {h : MH} {sz kc ks : Nat} {Q : QT} {x : Int} {off : Int} {tgt : Nat} (hd : decode M.2.1 pc = .ok (.ifCond .eq off, 3)) (ht : (pc : Int) + off = (tgt : Int)) (kt : x = 0 → V M d tgt ls st h sz kc ks Q) (kf : x ≠ 0 → V M d (pc + 3) ls st h sz kc ks Q) : V M d pc ls (vI x :: st) h sz kc ks Q := by
  intro p l e R s m args below meth c Z E F cM sM C H locs cells slots lv hR hF hS hL hst h1 h2
  obtain ⟨⟨hx, hb, hml, hown, hnm⟩, hSF, hFF, hrm, hret⟩ := id C
  have hxx : i32 x := okh hst
  refine lv_if_eq hx hb hd ht (fun cc => ?_) (fun cc => ?_)
  · rw [show (0 : Int32) = Int32.ofInt 0 from rfl] at cc
    exact kt (by simp only [i32_eq hxx i32_0, ne_eq] at cc ⊢; omega) p l e R s m args below meth c Z E F cM sM C H locs cells slots lv hR hF hS hL (okt hst) h1 h2
  · rw [show (0 : Int32) = Int32.ofInt 0 from rfl] at cc
    exact kf (by simp only [i32_eq hxx i32_0, ne_eq] at cc ⊢; omega) p l e R s m args below meth c Z E F cM sM C H locs cells slots lv hR hF hS hL (okt hst) h1 h2
theorem V.icmp_ne {M : MD} {d pc : Nat} {ls : List (Option MV)} {st : List MV} {h : MH} {sz kc ks : Nat} {Q : QT} {x y : Int} {off : Int} {tgt : Nat} (hd : decode M.2.1 pc = .ok (.if_icmp .ne off, 3)) (ht : (pc : Int) + off = (tgt : Int)) (kt : x ≠ y → V M d tgt ls st h sz kc ks Q) (kf : x = y → V M d (pc + 3) ls st h sz kc ks Q) : V M d pc ls (vI y :: vI x :: st) h sz kc ks Q := by
  intro p l e R s m args below meth c Z E F cM sM C H locs cells slots lv hR hF hS hL hst h1 h2
  obtain ⟨⟨hx, hb, hml, hown, hnm⟩, hSF, hFF, hrm, hret⟩ := id C
  have hyy : i32 y := okh hst
  have hxx : i32 x := okh (okt hst)
  refine lv_icmp_ne hx hb hd ht (fun cc => ?_) (fun cc => ?_)
  · exact kt (by simp only [i32_eq hxx hyy, ne_eq] at cc ⊢; omega) p l e R s m args below meth c Z E F cM sM C H locs cells slots lv hR hF hS hL (okt (okt hst)) h1 h2
  · exact kf (by simp only [i32_eq hxx hyy, ne_eq] at cc ⊢; omega) p l e R s m args below meth c Z E F cM sM C H locs cells slots lv hR hF hS hL (okt (okt hst)) h1 h2
theorem V.if_ne {M : MD} {d pc : Nat} {ls : List (Option MV)} {st : List MV} {h : MH} {sz kc ks : Nat} {Q : QT} {x : Int} {off : Int} {tgt : Nat} (hd : decode M.2.1 pc = .ok (.ifCond .ne off, 3)) (ht : (pc : Int) + off = (tgt : Int)) (kt : x ≠ 0 → V M d tgt ls st h sz kc ks Q) (kf : x = 0 → V M d (pc + 3) ls st h sz kc ks Q) : V M d pc ls (vI x :: st) h sz kc ks Q := by
  intro p l e R s m args below meth c Z E F cM sM C H locs cells slots lv hR hF hS hL hst h1 h2
  obtain ⟨⟨hx, hb, hml, hown, hnm⟩, hSF, hFF, hrm, hret⟩ := id C
  have hxx : i32 x := okh hst
  refine lv_if_ne hx hb hd ht (fun cc => ?_) (fun cc => ?_)
  · rw [show (0 : Int32) = Int32.ofInt 0 from rfl] at cc
    exact kt (by simp only [i32_eq hxx i32_0, ne_eq] at cc ⊢; omega) p l e R s m args below meth c Z E F cM sM C H locs cells slots lv hR hF hS hL (okt hst) h1 h2
  · rw [show (0 : Int32) = Int32.ofInt 0 from rfl] at cc
    exact kf (by simp only [i32_eq hxx i32_0, ne_eq] at cc ⊢; omega) p l e R s m args below meth c Z E F cM sM C H locs cells slots lv hR hF hS hL (okt hst) h1 h2
theorem V.icmp_lt {M : MD} {d pc : Nat} {ls : List (Option MV)} {st : List MV} {h : MH} {sz kc ks : Nat} {Q : QT} {x y : Int} {off : Int} {tgt : Nat} (hd : decode M.2.1 pc = .ok (.if_icmp .lt off, 3)) (ht : (pc : Int) + off = (tgt : Int)) (kt : x < y → V M d tgt ls st h sz kc ks Q) (kf : y ≤ x → V M d (pc + 3) ls st h sz kc ks Q) : V M d pc ls (vI y :: vI x :: st) h sz kc ks Q := by
  intro p l e R s m args below meth c Z E F cM sM C H locs cells slots lv hR hF hS hL hst h1 h2
  obtain ⟨⟨hx, hb, hml, hown, hnm⟩, hSF, hFF, hrm, hret⟩ := id C
  have hyy : i32 y := okh hst
  have hxx : i32 x := okh (okt hst)
  refine lv_icmp_lt hx hb hd ht (fun cc => ?_) (fun cc => ?_)
  · exact kt (by simp only [i32_lt hxx hyy, ne_eq] at cc ⊢; omega) p l e R s m args below meth c Z E F cM sM C H locs cells slots lv hR hF hS hL (okt (okt hst)) h1 h2
  · exact kf (by simp only [i32_lt hxx hyy, ne_eq] at cc ⊢; omega) p l e R s m args below meth c Z E F cM sM C H locs cells slots lv hR hF hS hL (okt (okt hst)) h1 h2
theorem V.if_lt {M : MD} {d pc : Nat} {ls : List (Option MV)} {st : List MV} {h : MH} {sz kc ks : Nat} {Q : QT} {x : Int} {off : Int} {tgt : Nat} (hd : decode M.2.1 pc = .ok (.ifCond .lt off, 3)) (ht : (pc : Int) + off = (tgt : Int)) (kt : x < 0 → V M d tgt ls st h sz kc ks Q) (kf : 0 ≤ x → V M d (pc + 3) ls st h sz kc ks Q) : V M d pc ls (vI x :: st) h sz kc ks Q := by
  intro p l e R s m args below meth c Z E F cM sM C H locs cells slots lv hR hF hS hL hst h1 h2
  obtain ⟨⟨hx, hb, hml, hown, hnm⟩, hSF, hFF, hrm, hret⟩ := id C
  have hxx : i32 x := okh hst
  refine lv_if_lt hx hb hd ht (fun cc => ?_) (fun cc => ?_)
  · rw [show (0 : Int32) = Int32.ofInt 0 from rfl] at cc
    exact kt (by simp only [i32_lt hxx i32_0, ne_eq] at cc ⊢; omega) p l e R s m args below meth c Z E F cM sM C H locs cells slots lv hR hF hS hL (okt hst) h1 h2
  · rw [show (0 : Int32) = Int32.ofInt 0 from rfl] at cc
    exact kf (by simp only [i32_lt hxx i32_0, ne_eq] at cc ⊢; omega) p l e R s m args below meth c Z E F cM sM C H locs cells slots lv hR hF hS hL (okt hst) h1 h2
theorem V.icmp_ge {M : MD} {d pc : Nat} {ls : List (Option MV)} {st : List MV} {h : MH} {sz kc ks : Nat} {Q : QT} {x y : Int} {off : Int} {tgt : Nat} (hd : decode M.2.1 pc = .ok (.if_icmp .ge off, 3)) (ht : (pc : Int) + off = (tgt : Int)) (kt : y ≤ x → V M d tgt ls st h sz kc ks Q) (kf : x < y → V M d (pc + 3) ls st h sz kc ks Q) : V M d pc ls (vI y :: vI x :: st) h sz kc ks Q := by
  intro p l e R s m args below meth c Z E F cM sM C H locs cells slots lv hR hF hS hL hst h1 h2
  obtain ⟨⟨hx, hb, hml, hown, hnm⟩, hSF, hFF, hrm, hret⟩ := id C
  have hyy : i32 y := okh hst
  have hxx : i32 x := okh (okt hst)
  refine lv_icmp_ge hx hb hd ht (fun cc => ?_) (fun cc => ?_)
  · exact kt (by simp only [i32_le hyy hxx, ne_eq] at cc ⊢; omega) p l e R s m args below meth c Z E F cM sM C H locs cells slots lv hR hF hS hL (okt (okt hst)) h1 h2
  · exact kf (by simp only [i32_le hyy hxx, ne_eq] at cc ⊢; omega) p l e R s m args below meth c Z E F cM sM C H locs cells slots lv hR hF hS hL (okt (okt hst)) h1 h2
theorem V.if_ge {M : MD} {d pc : Nat} {ls : List (Option MV)} {st : List MV} {h : MH} {sz kc ks : Nat} {Q : QT} {x : Int} {off : Int} {tgt : Nat} (hd : decode M.2.1 pc = .ok (.ifCond .ge off, 3)) (ht : (pc : Int) + off = (tgt : Int)) (kt : 0 ≤ x → V M d tgt ls st h sz kc ks Q) (kf : x < 0 → V M d (pc + 3) ls st h sz kc ks Q) : V M d pc ls (vI x :: st) h sz kc ks Q := by
  intro p l e R s m args below meth c Z E F cM sM C H locs cells slots lv hR hF hS hL hst h1 h2
  obtain ⟨⟨hx, hb, hml, hown, hnm⟩, hSF, hFF, hrm, hret⟩ := id C
  have hxx : i32 x := okh hst
  refine lv_if_ge hx hb hd ht (fun cc => ?_) (fun cc => ?_)
  · rw [show (0 : Int32) = Int32.ofInt 0 from rfl] at cc
    exact kt (by simp only [i32_le i32_0 hxx, ne_eq] at cc ⊢; omega) p l e R s m args below meth c Z E F cM sM C H locs cells slots lv hR hF hS hL (okt hst) h1 h2
  · rw [show (0 : Int32) = Int32.ofInt 0 from rfl] at cc
    exact kf (by simp only [i32_le i32_0 hxx, ne_eq] at cc ⊢; omega) p l e R s m args below meth c Z E F cM sM C H locs cells slots lv hR hF hS hL (okt hst) h1 h2
theorem V.icmp_gt {M : MD} {d pc : Nat} {ls : List (Option MV)} {st : List MV} {h : MH} {sz kc ks : Nat} {Q : QT} {x y : Int} {off : Int} {tgt : Nat} (hd : decode M.2.1 pc = .ok (.if_icmp .gt off, 3)) (ht : (pc : Int) + off = (tgt : Int)) (kt : y < x → V M d tgt ls st h sz kc ks Q) (kf : x ≤ y → V M d (pc + 3) ls st h sz kc ks Q) : V M d pc ls (vI y :: vI x :: st) h sz kc ks Q := by
  intro p l e R s m args below meth c Z E F cM sM C H locs cells slots lv hR hF hS hL hst h1 h2
  obtain ⟨⟨hx, hb, hml, hown, hnm⟩, hSF, hFF, hrm, hret⟩ := id C
  have hyy : i32 y := okh hst
  have hxx : i32 x := okh (okt hst)
  refine lv_icmp_gt hx hb hd ht (fun cc => ?_) (fun cc => ?_)
  · exact kt (by simp only [i32_lt hyy hxx, ne_eq] at cc ⊢; omega) p l e R s m args below meth c Z E F cM sM C H locs cells slots lv hR hF hS hL (okt (okt hst)) h1 h2
  · exact kf (by simp only [i32_lt hyy hxx, ne_eq] at cc ⊢; omega) p l e R s m args below meth c Z E F cM sM C H locs cells slots lv hR hF hS hL (okt (okt hst)) h1 h2
theorem V.if_gt {M : MD} {d pc : Nat} {ls : List (Option MV)} {st : List MV} {h : MH} {sz kc ks : Nat} {Q : QT} {x : Int} {off : Int} {tgt : Nat} (hd : decode M.2.1 pc = .ok (.ifCond .gt off, 3)) (ht : (pc : Int) + off = (tgt : Int)) (kt : 0 < x → V M d tgt ls st h sz kc ks Q) (kf : x ≤ 0 → V M d (pc + 3) ls st h sz kc ks Q) : V M d pc ls (vI x :: st) h sz kc ks Q := by
  intro p l e R s m args below meth c Z E F cM sM C H locs cells slots lv hR hF hS hL hst h1 h2
  obtain ⟨⟨hx, hb, hml, hown, hnm⟩, hSF, hFF, hrm, hret⟩ := id C
  have hxx : i32 x := okh hst
  refine lv_if_gt hx hb hd ht (fun cc => ?_) (fun cc => ?_)
  · rw [show (0 : Int32) = Int32.ofInt 0 from rfl] at cc
    exact kt (by simp only [i32_lt i32_0 hxx, ne_eq] at cc ⊢; omega) p l e R s m args below meth c Z E F cM sM C H locs cells slots lv hR hF hS hL (okt hst) h1 h2
  · rw [show (0 : Int32) = Int32.ofInt 0 from rfl] at cc
    exact kf (by simp only [i32_lt i32_0 hxx, ne_eq] at cc ⊢; omega) p l e R s m args below meth c Z E F cM sM C H locs cells slots lv hR hF hS hL (okt hst) h1 h2
theorem V.icmp_le {M : MD} {d pc : Nat} {ls : List (Option MV)} {st : List MV} {h : MH} {sz kc ks : Nat} {Q : QT} {x y : Int} {off : Int} {tgt : Nat} (hd : decode M.2.1 pc = .ok (.if_icmp .le off, 3)) (ht : (pc : Int) + off = (tgt : Int)) (kt : x ≤ y → V M d tgt ls st h sz kc ks Q) (kf : y < x → V M d (pc + 3) ls st h sz kc ks Q) : V M d pc ls (vI y :: vI x :: st) h sz kc ks Q := by
  intro p l e R s m args below meth c Z E F cM sM C H locs cells slots lv hR hF hS hL hst h1 h2
  obtain ⟨⟨hx, hb, hml, hown, hnm⟩, hSF, hFF, hrm, hret⟩ := id C
  have hyy : i32 y := okh hst
  have hxx : i32 x := okh (okt hst)
  refine lv_icmp_le hx hb hd ht (fun cc => ?_) (fun cc => ?_)
  · exact kt (by simp only [i32_le hxx hyy, ne_eq] at cc ⊢; omega) p l e R s m args below meth c Z E F cM sM C H locs cells slots lv hR hF hS hL (okt (okt hst)) h1 h2
  · exact kf (by simp only [i32_le hxx hyy, ne_eq] at cc ⊢; omega) p l e R s m args below meth c Z E F cM sM C H locs cells slots lv hR hF hS hL (okt (okt hst)) h1 h2
theorem V.if_le {M : MD} {d pc : Nat} {ls : List (Option MV)} {st : List MV} {h : MH} {sz kc ks : Nat} {Q : QT} {x : Int} {off : Int} {tgt : Nat} (hd : decode M.2.1 pc = .ok (.ifCond .le off, 3)) (ht : (pc : Int) + off = (tgt : Int)) (kt : x ≤ 0 → V M d tgt ls st h sz kc ks Q) (kf : 0 < x → V M d (pc + 3) ls st h sz kc ks Q) : V M d pc ls (vI x :: st) h sz kc ks Q := by
  intro p l e R s m args below meth c Z E F cM sM C H locs cells slots lv hR hF hS hL hst h1 h2
  obtain ⟨⟨hx, hb, hml, hown, hnm⟩, hSF, hFF, hrm, hret⟩ := id C
  have hxx : i32 x := okh hst
  refine lv_if_le hx hb hd ht (fun cc => ?_) (fun cc => ?_)
  · rw [show (0 : Int32) = Int32.ofInt 0 from rfl] at cc
    exact kt (by simp only [i32_le hxx i32_0, ne_eq] at cc ⊢; omega) p l e R s m args below meth c Z E F cM sM C H locs cells slots lv hR hF hS hL (okt hst) h1 h2
  · rw [show (0 : Int32) = Int32.ofInt 0 from rfl] at cc
    exact kf (by simp only [i32_le hxx i32_0, ne_eq] at cc ⊢; omega) p l e R s m args below meth c Z E F cM sM C H locs cells slots lv hR hF hS hL (okt hst) h1 h2
theorem V.ifnull {M : MD} {d pc : Nat} {ls : List (Option MV)} {st : List MV} {h : MH} {sz kc ks : Nat} {Q : QT} {o : Option Nat} {off : Int} {tgt : Nat} (hd : decode M.2.1 pc = .ok (.ifnull off, 3)) (ht : (pc : Int) + off = (tgt : Int)) (kt : o = none → V M d tgt ls st h sz kc ks Q) (kf : ∀ a, o = some a → V M d (pc + 3) ls st h sz kc ks Q) : V M d pc ls (vQ o :: st) h sz kc ks Q := by
  intro p l e R s m args below meth c Z E F cM sM C H locs cells slots lv hR hF hS hL hst h1 h2
  obtain ⟨⟨hx, hb, hml, hown, hnm⟩, hSF, hFF, hrm, hret⟩ := id C
  cases o with
  | none => exact lv_ifnullN hx hb hd ht (kt rfl p l e R s m args below meth c Z E F cM sM C H locs cells slots lv hR hF hS hL (okt hst) h1 h2)
  | some a => exact lv_ifnull hx hb hd (kf a rfl p l e R s m args below meth c Z E F cM sM C H locs cells slots lv hR hF hS hL (okt hst) h1 h2)
theorem V.ifnonnull {M : MD} {d pc : Nat} {ls : List (Option MV)} {st : List MV} {h : MH} {sz kc ks : Nat} {Q : QT} {o : Option Nat} {off : Int} {tgt : Nat} (hd : decode M.2.1 pc = .ok (.ifnonnull off, 3)) (ht : (pc : Int) + off = (tgt : Int)) (kt : ∀ a, o = some a → V M d tgt ls st h sz kc ks Q) (kf : o = none → V M d (pc + 3) ls st h sz kc ks Q) : V M d pc ls (vQ o :: st) h sz kc ks Q := by
  intro p l e R s m args below meth c Z E F cM sM C H locs cells slots lv hR hF hS hL hst h1 h2
  obtain ⟨⟨hx, hb, hml, hown, hnm⟩, hSF, hFF, hrm, hret⟩ := id C
  cases o with
  | none => exact lv_ifnonnullN hx hb hd (kf rfl p l e R s m args below meth c Z E F cM sM C H locs cells slots lv hR hF hS hL (okt hst) h1 h2)
  | some a => exact lv_ifnonnull hx hb hd ht (kt a rfl p l e R s m args below meth c Z E F cM sM C H locs cells slots lv hR hF hS hL (okt hst) h1 h2)
theorem V.tswIn {M : MD} {d pc : Nat} {ls : List (Option MV)} {st : List MV} {h : MH} {sz kc ks : Nat} {Q : QT} {x : Int} {dflt lo hi : Int} {offs : Array Int} {len : Nat} {off : Int} {tgt : Nat} (hd : decode M.2.1 pc = .ok (.tableswitch dflt lo hi offs, len)) (hx1 : lo ≤ x) (hx2 : x ≤ hi) (ho : offs[(x - lo).toNat]? = some off) (ht : (pc : Int) + off = (tgt : Int)) (k : V M d tgt ls st h sz kc ks Q) : V M d pc ls (vI x :: st) h sz kc ks Q := by
  intro p l e R s m args below meth c Z E F cM sM C H locs cells slots lv hR hF hS hL hst h1 h2
  obtain ⟨⟨hx, hb, hml, hown, hnm⟩, hSF, hFF, hrm, hret⟩ := id C
  have hxx : i32 x := okh hst
  exact lv_tableIn hx hb hd (by rw [i32_to hxx]; omega) (by rw [i32_to hxx]; omega) (by rw [i32_to hxx]; exact ho) ht (k p l e R s m args below meth c Z E F cM sM C H locs cells slots lv hR hF hS hL (okt hst) h1 h2)
theorem V.tswOut {M : MD} {d pc : Nat} {ls : List (Option MV)} {st : List MV} {h : MH} {sz kc ks : Nat} {Q : QT} {x : Int} {dflt lo hi : Int} {offs : Array Int} {len : Nat} {tgt : Nat} (hd : decode M.2.1 pc = .ok (.tableswitch dflt lo hi offs, len)) (hx1 : x < lo ∨ hi < x) (ht : (pc : Int) + dflt = (tgt : Int)) (k : V M d tgt ls st h sz kc ks Q) : V M d pc ls (vI x :: st) h sz kc ks Q := by
  intro p l e R s m args below meth c Z E F cM sM C H locs cells slots lv hR hF hS hL hst h1 h2
  obtain ⟨⟨hx, hb, hml, hown, hnm⟩, hSF, hFF, hrm, hret⟩ := id C
  have hxx : i32 x := okh hst
  exact lv_tableOut hx hb hd (by rw [i32_to hxx]; exact hx1) ht (k p l e R s m args below meth c Z E F cM sM C H locs cells slots lv hR hF hS hL (okt hst) h1 h2)
theorem V.lsw {M : MD} {d pc : Nat} {ls : List (Option MV)} {st : List MV} {h : MH} {sz kc ks : Nat} {Q : QT} {x : Int} {dflt : Int} {ps : Array (Int × Int)} {len : Nat} {off : Int} {tgt : Nat} (hd : decode M.2.1 pc = .ok (.lookupswitch dflt ps, len)) (hp : (ps.toList.zip (ps.toList.drop 1)).all (fun (a, next) => a.1 < next.1) = true) (ho : Op.lookupswitch.offset ps.toList dflt x = off) (ht : (pc : Int) + off = (tgt : Int)) (k : V M d tgt ls st h sz kc ks Q) : V M d pc ls (vI x :: st) h sz kc ks Q := by
  intro p l e R s m args below meth c Z E F cM sM C H locs cells slots lv hR hF hS hL hst h1 h2
  obtain ⟨⟨hx, hb, hml, hown, hnm⟩, hSF, hFF, hrm, hret⟩ := id C
  have hxx : i32 x := okh hst
  exact lv_lookup hx hb hd hp (by rw [i32_to hxx]; exact ho) ht (k p l e R s m args below meth c Z E F cM sM C H locs cells slots lv hR hF hS hL (okt hst) h1 h2)
/-- the range of a number on the stack, in a local, is known -/
theorem V.rng {M : MD} {d pc : Nat} {ls : List (Option MV)} {st : List MV} {h : MH} {sz kc ks : Nat} {Q : QT} {x : Int} (k : i32 x → V M d pc ls (vI x :: st) h sz kc ks Q) : V M d pc ls (vI x :: st) h sz kc ks Q := by
  intro p l e R s m args below meth c Z E F cM sM C H locs cells slots lv hR hF hS hL hst h1 h2
  obtain ⟨⟨hx, hb, hml, hown, hnm⟩, hSF, hFF, hrm, hret⟩ := id C
  exact k (okh hst) p l e R s m args below meth c Z E F cM sM C H locs cells slots lv hR hF hS hL hst h1 h2
theorem V.lrng {M : MD} {d pc : Nat} {ls : List (Option MV)} {st : List MV} {h : MH} {sz kc ks : Nat} {Q : QT} {x : Int} (i : Nat) (hi : lk ls i = some (vI x)) (k : i32 x → V M d pc ls st h sz kc ks Q) : V M d pc ls st h sz kc ks Q := by
  intro p l e R s m args below meth c Z E F cM sM C H locs cells slots lv hR hF hS hL hst h1 h2
  obtain ⟨⟨hx, hb, hml, hown, hnm⟩, hSF, hFF, hrm, hret⟩ := id C
  exact k (hL.2.2 i _ hi).2 p l e R s m args below meth c Z E F cM sM C H locs cells slots lv hR hF hS hL hst h1 h2
/-- a cell of the world: what it holds is in range -/
theorem V.hok {M : MD} {d pc : Nat} {ls : List (Option MV)} {st : List MV} {h : MH} {sz kc ks : Nat} {Q : QT} {a : Nat} {c : MC} (ha : h a = some c) (k : okC c → V M d pc ls st h sz kc ks Q) : V M d pc ls st h sz kc ks Q := by
  intro p l e R s m args below meth c Z E F cM sM C H locs cells slots lv hR hF hS hL hst h1 h2
  exact k (hR.2 _ _ ha).1 p l e R s m args below meth c Z E F cM sM C H locs cells slots lv hR hF hS hL hst h1 h2
theorem V.hlt {M : MD} {d pc : Nat} {ls : List (Option MV)} {st : List MV} {h : MH} {sz kc ks : Nat} {Q : QT} {a : Nat} {c : MC} (ha : h a = some c) (k : a < sz → V M d pc ls st h sz kc ks Q) : V M d pc ls st h sz kc ks Q := by
  intro p l e R s m args below meth c Z E F cM sM C H locs cells slots lv hR hF hS hL hst h1 h2
  exact k (hR.lt ha) p l e R s m args below meth c Z E F cM sM C H locs cells slots lv hR hF hS hL hst h1 h2
theorem V.less {M : MD} {d pc : Nat} {ls : List (Option MV)} {st : List MV} {h : MH} {sz kc ks : Nat} {Q : QT} {kc2 ks2 : Nat} (g1 : kc2 ≤ kc) (g2 : ks2 ≤ ks) (k : V M d pc ls st h sz kc2 ks2 Q) : V M d pc ls st h sz kc ks Q := by
  intro p l e R s m args below meth c Z E F cM sM C H locs cells slots lv hR hF hS hL hst h1 h2
  obtain ⟨⟨hx, hb, hml, hown, hnm⟩, hSF, hFF, hrm, hret⟩ := id C
  exact k p l e R s m args below meth c Z E F cM sM C H locs cells slots lv hR hF hS hL hst (by omega) (by omega)
/-! RULES: locals -/
theorem V.iload_n {M : MD} {d pc : Nat} {ls : List (Option MV)} {st : List MV} {h : MH} {sz kc ks : Nat} {Q : QT} {n : Fin 4} {x : Int} (i : Nat) (hd : decode M.2.1 pc = .ok (.iload_n n, 1)) (hn : (n : Nat) = i) (hi : lk ls i = some (vI x)) (k : V M d (pc + 1) ls (vI x :: st) h sz kc ks Q) : V M d pc ls st h sz kc ks Q := by
  intro p l e R s m args below meth c Z E F cM sM C H locs cells slots lv hR hF hS hL hst h1 h2
  obtain ⟨⟨hx, hb, hml, hown, hnm⟩, hSF, hFF, hrm, hret⟩ := id C
  have hq := hL.2.2 i _ hi
  exact lv_iload_n hx hb hd hn hq.1 (k p l e R s m args below meth c Z E F cM sM C H locs cells slots lv hR hF hS hL (okp hq.2 hst) h1 h2)
theorem V.iload {M : MD} {d pc : Nat} {ls : List (Option MV)} {st : List MV} {h : MH} {sz kc ks : Nat} {Q : QT} {x : Int} {i : Nat} (hd : decode M.2.1 pc = .ok (.iload i, 2)) (hi : lk ls i = some (vI x)) (k : V M d (pc + 2) ls (vI x :: st) h sz kc ks Q) : V M d pc ls st h sz kc ks Q := by
  intro p l e R s m args below meth c Z E F cM sM C H locs cells slots lv hR hF hS hL hst h1 h2
  obtain ⟨⟨hx, hb, hml, hown, hnm⟩, hSF, hFF, hrm, hret⟩ := id C
  have hq := hL.2.2 i _ hi
  exact lv_iload hx hb hd hq.1 (k p l e R s m args below meth c Z E F cM sM C H locs cells slots lv hR hF hS hL (okp hq.2 hst) h1 h2)
theorem V.lload_n {M : MD} {d pc : Nat} {ls : List (Option MV)} {st : List MV} {h : MH} {sz kc ks : Nat} {Q : QT} {n : Fin 4} {x : Int} (i : Nat) (hd : decode M.2.1 pc = .ok (.lload_n n, 1)) (hn : (n : Nat) = i) (hi : lk ls i = some (vL x)) (k : V M d (pc + 1) ls (vL x :: st) h sz kc ks Q) : V M d pc ls st h sz kc ks Q := by
  intro p l e R s m args below meth c Z E F cM sM C H locs cells slots lv hR hF hS hL hst h1 h2
  obtain ⟨⟨hx, hb, hml, hown, hnm⟩, hSF, hFF, hrm, hret⟩ := id C
  have hq := hL.2.2 i _ hi
  exact lv_lload_n hx hb hd hn hq.1 (k p l e R s m args below meth c Z E F cM sM C H locs cells slots lv hR hF hS hL (okp hq.2 hst) h1 h2)
theorem V.lload {M : MD} {d pc : Nat} {ls : List (Option MV)} {st : List MV} {h : MH} {sz kc ks : Nat} {Q : QT} {x : Int} {i : Nat} (hd : decode M.2.1 pc = .ok (.lload i, 2)) (hi : lk ls i = some (vL x)) (k : V M d (pc + 2) ls (vL x :: st) h sz kc ks Q) : V M d pc ls st h sz kc ks Q := by
  intro p l e R s m args below meth c Z E F cM sM C H locs cells slots lv hR hF hS hL hst h1 h2
  obtain ⟨⟨hx, hb, hml, hown, hnm⟩, hSF, hFF, hrm, hret⟩ := id C
  have hq := hL.2.2 i _ hi
  exact lv_lload hx hb hd hq.1 (k p l e R s m args below meth c Z E F cM sM C H locs cells slots lv hR hF hS hL (okp hq.2 hst) h1 h2)
theorem V.aload_n {M : MD} {d pc : Nat} {ls : List (Option MV)} {st : List MV} {h : MH} {sz kc ks : Nat} {Q : QT} {n : Fin 4} {w : Option Nat ⊕ Nat} (i : Nat) (hd : decode M.2.1 pc = .ok (.aload_n n, 1)) (hn : (n : Nat) = i) (hi : lk ls i = some (.inr (.inr w))) (k : V M d (pc + 1) ls (.inr (.inr w) :: st) h sz kc ks Q) : V M d pc ls st h sz kc ks Q := by
  intro p l e R s m args below meth c Z E F cM sM C H locs cells slots lv hR hF hS hL hst h1 h2
  obtain ⟨⟨hx, hb, hml, hown, hnm⟩, hSF, hFF, hrm, hret⟩ := id C
  have hq := hL.2.2 i _ hi
  have kk := k p l e R s m args below meth c Z E F cM sM C H locs cells slots lv hR hF hS hL (okp hq.2 hst) h1 h2
  rcases w with (- | a) | a
  · exact lv_aload_nN hx hb hd hn hq.1 kk
  · exact lv_aload_n hx hb hd hn hq.1 kk
  · exact lv_aload_n hx hb hd hn hq.1 kk
theorem V.aload {M : MD} {d pc : Nat} {ls : List (Option MV)} {st : List MV} {h : MH} {sz kc ks : Nat} {Q : QT} {w : Option Nat ⊕ Nat} {i : Nat} (hd : decode M.2.1 pc = .ok (.aload i, 2)) (hi : lk ls i = some (.inr (.inr w))) (k : V M d (pc + 2) ls (.inr (.inr w) :: st) h sz kc ks Q) : V M d pc ls st h sz kc ks Q := by
  intro p l e R s m args below meth c Z E F cM sM C H locs cells slots lv hR hF hS hL hst h1 h2
  obtain ⟨⟨hx, hb, hml, hown, hnm⟩, hSF, hFF, hrm, hret⟩ := id C
  have hq := hL.2.2 i _ hi
  have kk := k p l e R s m args below meth c Z E F cM sM C H locs cells slots lv hR hF hS hL (okp hq.2 hst) h1 h2
  rcases w with (- | a) | a
  · exact lv_aloadN hx hb hd hq.1 kk
  · exact lv_aload hx hb hd hq.1 kk
  · exact lv_aload hx hb hd hq.1 kk
/-- stores: the list with place i set; the place ahead of it holds no long -/
def noL (ls : List (Option MV)) (i : Nat) : Bool := match i with
  | 0 => true
  | j + 1 => match lk ls j with
    | some (.inr (.inl _)) => false
    | _ => true
def put : List (Option MV) → Nat → Option MV → List (Option MV)
  | [], 0, v => [v]
  | [], n + 1, v => none :: put [] n v
  | _ :: l, 0, v => v :: l
  | o :: l, n + 1, v => o :: put l n v
theorem lk_nil : ∀ (j : Nat), lk [] j = none
  | 0 => rfl
  | _ + 1 => rfl
theorem lk_put : ∀ (ls : List (Option MV)) (i j : Nat) (v : Option MV), lk (put ls i v) j = if j = i then v else lk ls j
  | [], 0, 0, v => rfl
  | [], 0, j + 1, v => by simp [put, lk, lk_nil]
  | [], n + 1, 0, v => by simp [put, lk]
  | [], n + 1, j + 1, v => by simp only [put, lk]; rw [lk_put [] n j v]; simp [lk_nil]
  | o :: l, 0, 0, v => rfl
  | o :: l, 0, j + 1, v => by simp [put, lk]
  | o :: l, n + 1, 0, v => by simp [put, lk]
  | o :: l, n + 1, j + 1, v => by simp only [put, lk]; rw [lk_put l n j v]; simp
def lpairs (E : Ev) (ls : List (Option MV)) : List (Nat × Value) := (List.range ls.length).filterMap (fun i => (lk ls i).map (fun v => (i, cv E v)))
theorem lk_lt : ∀ {ls : List (Option MV)} {i : Nat} {v : MV}, lk ls i = some v → i < ls.length
  | [], i, v, h => by rw [lk_nil] at h; cases h
  | o :: l, 0, v, h => Nat.succ_pos _
  | o :: l, n + 1, v, h => Nat.succ_lt_succ (lk_lt (ls := l) h)
theorem lpairs_mem {E : Ev} {ls : List (Option MV)} {i : Nat} {v : MV} (h : lk ls i = some v) : (i, cv E v) ∈ lpairs E ls :=
  List.mem_filterMap.mpr ⟨i, List.mem_range.mpr (lk_lt h), by rw [h]; rfl⟩
theorem lpairs_has {E : Ev} {nL : Nat} {ls : List (Option MV)} {lv : Array Slot} (h : LL E nL ls lv) : lv_has lv nL (lpairs E ls) := by
  refine ⟨h.1, h.2.1, fun q hq => ?_⟩
  obtain ⟨i, -, hi⟩ := List.mem_filterMap.mp hq
  cases hv : lk ls i with
  | none => rw [hv] at hi; cases hi
  | some v => rw [hv] at hi; cases hi; exact (h.2.2 i v hv).1
theorem noL_cat {E : Ev} {ls : List (Option MV)} {i j : Nat} {v : MV} (hn : noL ls i = true) (hj : lk ls j = some v) (hi : j + 1 = i) : ¬ (cv E v).category = 2 := by
  subst hi
  simp only [noL, hj] at hn
  rcases v with z | z | o | k
  · simp [cv, Value.category]
  · simp at hn
  · cases o <;> simp [cv, Value.category]
  · simp [cv, Value.category]
theorem LL_put1 {E : Ev} {nL i : Nat} {ls : List (Option MV)} {lv lv2 : Array Slot} {v : MV} (h : LL E nL ls lv) (hn : noL ls i = true) (hv : okV v) (h2 : lv_has lv2 nL ((i, cv E v) :: (lpairs E ls).filter (fun q => !(q.1 == i) && !(q.1 + 1 == i && q.2.category == 2)))) : LL E nL (put ls i (some v)) lv2 := by
  refine ⟨h2.1, h2.2.1, fun j w hw => ?_⟩
  rw [lk_put] at hw
  by_cases hj : j = i
  · subst hj; rw [if_pos rfl] at hw; cases hw
    exact ⟨h2.2.2 _ List.mem_cons_self, hv⟩
  · rw [if_neg hj] at hw
    refine ⟨h2.2.2 (j, cv E w) (List.mem_cons_of_mem _ (List.mem_filter.mpr ⟨lpairs_mem hw, ?_⟩)), (h.2.2 j w hw).2⟩
    by_cases hji : j + 1 = i
    · have := noL_cat (E := E) hn hw hji
      simp [hj, this]
    · simp [hj, hji]
theorem LL_put2 {E : Ev} {nL i : Nat} {ls : List (Option MV)} {lv lv2 : Array Slot} {v : MV} (h : LL E nL ls lv) (hn : noL ls i = true) (hv : okV v) (h2 : lv_has lv2 nL ((i, cv E v) :: (lpairs E ls).filter (fun q => !(q.1 == i) && (!(q.1 == i + 1) && !(q.1 + 1 == i && q.2.category == 2))))) : LL E nL (put (put ls i (some v)) (i + 1) none) lv2 := by
  refine ⟨h2.1, h2.2.1, fun j w hw => ?_⟩
  rw [lk_put] at hw
  by_cases hj1 : j = i + 1
  · rw [if_pos hj1] at hw; cases hw
  rw [if_neg hj1, lk_put] at hw
  by_cases hj : j = i
  · subst hj; rw [if_pos rfl] at hw; cases hw
    exact ⟨h2.2.2 _ List.mem_cons_self, hv⟩
  · rw [if_neg hj] at hw
    refine ⟨h2.2.2 (j, cv E w) (List.mem_cons_of_mem _ (List.mem_filter.mpr ⟨lpairs_mem hw, ?_⟩)), (h.2.2 j w hw).2⟩
    by_cases hji : j + 1 = i
    · have := noL_cat (E := E) hn hw hji
      simp [hj, hj1, this]
    · simp [hj, hj1, hji]
theorem LL_sub {E : Ev} {nL : Nat} {ls ls2 : List (Option MV)} {lv : Array Slot} (h : LL E nL ls lv) (hs : ∀ i v, lk ls2 i = some v → lk ls i = some v) : LL E nL ls2 lv := ⟨h.1, h.2.1, fun i v hv => h.2.2 i v (hs i v hv)⟩
theorem V.locs {M : MD} {d pc : Nat} {ls : List (Option MV)} {st : List MV} {h : MH} {sz kc ks : Nat} {Q : QT} {ls2 : List (Option MV)} (hs : ∀ i v, lk ls2 i = some v → lk ls i = some v) (k : V M d pc ls2 st h sz kc ks Q) : V M d pc ls st h sz kc ks Q := by
  intro p l e R s m args below meth c Z E F cM sM C H locs cells slots lv hR hF hS hL hst h1 h2
  obtain ⟨⟨hx, hb, hml, hown, hnm⟩, hSF, hFF, hrm, hret⟩ := id C
  exact k p l e R s m args below meth c Z E F cM sM C H locs cells slots lv hR hF hS (LL_sub hL hs) hst h1 h2
theorem V.istore_n {M : MD} {d pc : Nat} {ls : List (Option MV)} {st : List MV} {h : MH} {sz kc ks : Nat} {Q : QT} {n : Fin 4} {x : Int} (i : Nat) (hd : decode M.2.1 pc = .ok (.istore_n n, 1)) (hn : (n : Nat) = i) (hL0 : i < M.2.2.1) (hl : noL ls i = true) (k : V M d (pc + 1) (put ls i (some (vI x))) st h sz kc ks Q) : V M d pc ls (vI x :: st) h sz kc ks Q := by
  intro p l e R s m args below meth c Z E F cM sM C H locs cells slots lv hR hF hS hL hst h1 h2
  obtain ⟨⟨hx, hb, hml, hown, hnm⟩, hSF, hFF, hrm, hret⟩ := id C
  refine lv_istore_n hx hb hd hn (lpairs_has hL) hL0 rfl (fun lv2 hl2 => ?_)
  exact k p l e R s m args below meth c Z E F cM sM C H locs cells slots lv2 hR hF hS (LL_put1 hL hl (okh hst) hl2) (okt hst) h1 h2
theorem V.istore {M : MD} {d pc : Nat} {ls : List (Option MV)} {st : List MV} {h : MH} {sz kc ks : Nat} {Q : QT} {x : Int} {i : Nat} (hd : decode M.2.1 pc = .ok (.istore i, 2)) (hL0 : i < M.2.2.1) (hl : noL ls i = true) (k : V M d (pc + 2) (put ls i (some (vI x))) st h sz kc ks Q) : V M d pc ls (vI x :: st) h sz kc ks Q := by
  intro p l e R s m args below meth c Z E F cM sM C H locs cells slots lv hR hF hS hL hst h1 h2
  obtain ⟨⟨hx, hb, hml, hown, hnm⟩, hSF, hFF, hrm, hret⟩ := id C
  refine lv_istore hx hb hd (lpairs_has hL) hL0 rfl (fun lv2 hl2 => ?_)
  exact k p l e R s m args below meth c Z E F cM sM C H locs cells slots lv2 hR hF hS (LL_put1 hL hl (okh hst) hl2) (okt hst) h1 h2
theorem V.lstore_n {M : MD} {d pc : Nat} {ls : List (Option MV)} {st : List MV} {h : MH} {sz kc ks : Nat} {Q : QT} {n : Fin 4} {x : Int} (i : Nat) (hd : decode M.2.1 pc = .ok (.lstore_n n, 1)) (hn : (n : Nat) = i) (hL0 : i + 1 < M.2.2.1) (hl : noL ls i = true) (k : V M d (pc + 1) (put (put ls i (some (vL x))) (i + 1) none) st h sz kc ks Q) : V M d pc ls (vL x :: st) h sz kc ks Q := by
  intro p l e R s m args below meth c Z E F cM sM C H locs cells slots lv hR hF hS hL hst h1 h2
  obtain ⟨⟨hx, hb, hml, hown, hnm⟩, hSF, hFF, hrm, hret⟩ := id C
  refine lv_lstore_n hx hb hd hn (lpairs_has hL) hL0 rfl (fun lv2 hl2 => ?_)
  exact k p l e R s m args below meth c Z E F cM sM C H locs cells slots lv2 hR hF hS (LL_put2 hL hl (okh hst) hl2) (okt hst) h1 h2
theorem V.lstore {M : MD} {d pc : Nat} {ls : List (Option MV)} {st : List MV} {h : MH} {sz kc ks : Nat} {Q : QT} {x : Int} {i : Nat} (hd : decode M.2.1 pc = .ok (.lstore i, 2)) (hL0 : i + 1 < M.2.2.1) (hl : noL ls i = true) (k : V M d (pc + 2) (put (put ls i (some (vL x))) (i + 1) none) st h sz kc ks Q) : V M d pc ls (vL x :: st) h sz kc ks Q := by
  intro p l e R s m args below meth c Z E F cM sM C H locs cells slots lv hR hF hS hL hst h1 h2
  obtain ⟨⟨hx, hb, hml, hown, hnm⟩, hSF, hFF, hrm, hret⟩ := id C
  refine lv_lstore hx hb hd (lpairs_has hL) hL0 rfl (fun lv2 hl2 => ?_)
  exact k p l e R s m args below meth c Z E F cM sM C H locs cells slots lv2 hR hF hS (LL_put2 hL hl (okh hst) hl2) (okt hst) h1 h2
theorem V.astore_n {M : MD} {d pc : Nat} {ls : List (Option MV)} {st : List MV} {h : MH} {sz kc ks : Nat} {Q : QT} {n : Fin 4} {w : Option Nat ⊕ Nat} (i : Nat) (hd : decode M.2.1 pc = .ok (.astore_n n, 1)) (hn : (n : Nat) = i) (hL0 : i < M.2.2.1) (hl : noL ls i = true) (k : V M d (pc + 1) (put ls i (some (.inr (.inr w)))) st h sz kc ks Q) : V M d pc ls (.inr (.inr w) :: st) h sz kc ks Q := by
  intro p l e R s m args below meth c Z E F cM sM C H locs cells slots lv hR hF hS hL hst h1 h2
  obtain ⟨⟨hx, hb, hml, hown, hnm⟩, hSF, hFF, hrm, hret⟩ := id C
  rcases w with (- | a) | a
  · exact lv_astore_nN hx hb hd hn (lpairs_has hL) hL0 rfl (fun lv2 hl2 => k p l e R s m args below meth c Z E F cM sM C H locs cells slots lv2 hR hF hS (LL_put1 hL hl (okh hst) hl2) (okt hst) h1 h2)
  · exact lv_astore_n hx hb hd hn (lpairs_has hL) hL0 rfl (fun lv2 hl2 => k p l e R s m args below meth c Z E F cM sM C H locs cells slots lv2 hR hF hS (LL_put1 hL hl (okh hst) hl2) (okt hst) h1 h2)
  · exact lv_astore_n hx hb hd hn (lpairs_has hL) hL0 rfl (fun lv2 hl2 => k p l e R s m args below meth c Z E F cM sM C H locs cells slots lv2 hR hF hS (LL_put1 hL hl (okh hst) hl2) (okt hst) h1 h2)
theorem V.astore {M : MD} {d pc : Nat} {ls : List (Option MV)} {st : List MV} {h : MH} {sz kc ks : Nat} {Q : QT} {w : Option Nat ⊕ Nat} {i : Nat} (hd : decode M.2.1 pc = .ok (.astore i, 2)) (hL0 : i < M.2.2.1) (hl : noL ls i = true) (k : V M d (pc + 2) (put ls i (some (.inr (.inr w)))) st h sz kc ks Q) : V M d pc ls (.inr (.inr w) :: st) h sz kc ks Q := by
  intro p l e R s m args below meth c Z E F cM sM C H locs cells slots lv hR hF hS hL hst h1 h2
  obtain ⟨⟨hx, hb, hml, hown, hnm⟩, hSF, hFF, hrm, hret⟩ := id C
  rcases w with (- | a) | a
  · exact lv_astoreN hx hb hd (lpairs_has hL) hL0 rfl (fun lv2 hl2 => k p l e R s m args below meth c Z E F cM sM C H locs cells slots lv2 hR hF hS (LL_put1 hL hl (okh hst) hl2) (okt hst) h1 h2)
  · exact lv_astore hx hb hd (lpairs_has hL) hL0 rfl (fun lv2 hl2 => k p l e R s m args below meth c Z E F cM sM C H locs cells slots lv2 hR hF hS (LL_put1 hL hl (okh hst) hl2) (okt hst) h1 h2)
  · exact lv_astore hx hb hd (lpairs_has hL) hL0 rfl (fun lv2 hl2 => k p l e R s m args below meth c Z E F cM sM C H locs cells slots lv2 hR hF hS (LL_put1 hL hl (okh hst) hl2) (okt hst) h1 h2)
theorem V.iinc {M : MD} {d pc : Nat} {ls : List (Option MV)} {st : List MV} {h : MH} {sz kc ks : Nat} {Q : QT} {x n : Int} {i : Nat} (hd : decode M.2.1 pc = .ok (.iinc i n, 3)) (hi : lk ls i = some (vI x)) (hz : i32 (x + n)) (hL0 : i < M.2.2.1) (hl : noL ls i = true) (k : V M d (pc + 3) (put ls i (some (vI (x + n)))) st h sz kc ks Q) : V M d pc ls st h sz kc ks Q := by
  intro p l e R s m args below meth c Z E F cM sM C H locs cells slots lv hR hF hS hL hst h1 h2
  obtain ⟨⟨hx, hb, hml, hown, hnm⟩, hSF, hFF, hrm, hret⟩ := id C
  obtain ⟨kk, hk⟩ := List.getElem?_of_mem (lpairs_mem (E := E) hi)
  refine lv_iinc hx hb hd (lpairs_has hL) hk (v := Int32.ofInt (x + n)) (by rw [Int32.ofInt_add]) hL0 rfl (fun lv2 hl2 => ?_)
  exact k p l e R s m args below meth c Z E F cM sM C H locs cells slots lv2 hR hF hS (LL_put1 (v := vI (x + n)) hL hl hz hl2) hst h1 h2
/-! RULES: the end -/
theorem V.ret {M : MD} {d pc : Nat} {ls : List (Option MV)} {st : List MV} {h : MH} {sz kc ks : Nat} {Q : QT} {r : Option MV} (hd : decode M.2.1 pc = .ok (retI r, 1)) (hr : okRet M.2.2.2 r) (hs : st = r.toList) (hq : Q r h sz) : V M d pc ls st h sz kc ks Q := by
  intro p l e R s m args below meth c Z E F cM sM C H locs cells slots lv hR hF hS hL hst h1 h2
  obtain ⟨⟨hx, hb, hml, hown, hnm⟩, hSF, hFF, hrm, hret⟩ := id C
  refine W.widen (k := cM) (n := sM) (by omega) (by omega) ?_
  subst hs
  exact hret H locs lv pc r h sz hR hF hS (fun v hv => hst v (by rw [hv]; exact List.mem_cons_self)) hr hq hd
end
section
/-! RULES: the heap -/
def gT : List Cond := lw_tbl.filter goodWord
theorem SF.w {E : Ev} {s : State} (h : SF E s) {w : Cond} (hw : w ∈ lw_tbl) (hg : goodWord w = true) (args : Array Value) : w.before args s = true := by
  have h1 := h.2.1 w hw hg
  exact word_at (U := s) (State.WarmedH.refl s) (good_of_word hg) h1
theorem SF.hts {E : Ev} {s : State} (h : SF E s) (args : Array Value) : ∀ w ∈ gT, w.before args s = true := fun w hw => h.w (List.mem_filter.mp hw).1 (List.mem_filter.mp hw).2 args
theorem good_lay (C : String) (T : u_T) (k : Nat) : goodWord (u_lay C T k) = true := by unfold u_lay; split <;> rfl
theorem in_gT {C : String} {T : u_T} {N : Nat} (h : ∀ w ∈ u_ws C T N, w ∈ lw_tbl) : ∀ w ∈ u_ws C T N, w ∈ gT := by
  intro w hw
  refine List.mem_filter.mpr ⟨h w hw, ?_⟩
  obtain ⟨k, -, rfl⟩ := List.mem_map.mp hw
  exact good_lay C T k
/-- a class of ours: its table, its types, what a program decides of them -/
def Cls (ci : Nat) (C : String) (T : u_T) (N : Nat) (ty : Nat → FieldType) : Prop := classes[ci]? = some (C, T, N) ∧ (∀ w ∈ u_ws C T N, w ∈ lw_tbl) ∧ (∀ k, k < N → parseFieldDescriptor (T k).2.2.1 = some (ty k)) ∧ (∀ a, a < N → ∀ b, b < N → a ≠ b → (T a).2.1 ≠ (T b).2.1)
theorem cl_RR : Cls 0 "RiverRoad" F_RR 7 t_RR := ⟨rfl, i_RR, t_RR_ok, n_RR⟩
theorem cl_Tr : Cls 1 "RiverRoad$Trace" F_Tr 2 t_Tr := ⟨rfl, i_Tr, t_Tr_ok, n_Tr⟩
theorem cl_Sh : Cls 2 "RiverRoad$Sheet" F_Sh 2 t_Sh := ⟨rfl, i_Sh, t_Sh_ok, n_Sh⟩
theorem cl_Row : Cls 3 "RiverRoad$Row" F_Row 2 t_Row := ⟨rfl, i_Row, t_Row_ok, n_Row⟩
theorem cl_Ar : Cls 4 "RiverRoad$Arches" F_Ar 3 t_Ar := ⟨rfl, i_Ar, t_Ar_ok, n_Ar⟩
theorem cl_Ne : Cls 5 "RiverRoad$Nest" F_Ar 3 t_Ar := ⟨rfl, i_Ne, t_Ar_ok, n_Ar⟩
theorem cl_Pe : Cls 6 "RiverRoad$Peaks" F_Ar 3 t_Ar := ⟨rfl, i_Pe, t_Ar_ok, n_Ar⟩
theorem cl_La : Cls 7 "RiverRoad$Land" F_La 5 t_La := ⟨rfl, i_La, t_La_ok, n_La⟩
theorem cl_Lo : Cls 8 "RiverRoad$Loop" F_La 5 t_La := ⟨rfl, i_Lo, t_La_ok, n_La⟩
theorem cl_St : Cls 9 "RiverRoad$Strip" F_St 5 t_St := ⟨rfl, i_St, t_St_ok, n_St⟩
theorem cl_Fo : Cls 10 "RiverRoad$Fold" F_St 5 t_St := ⟨rfl, i_Fo, t_St_ok, n_St⟩
theorem cl_Mo : Cls 11 "RiverRoadModel" F_Mo 34 t_Mo := ⟨rfl, i_Mo, t_Mo_ok, n_Mo⟩
/-- a field's link: what the instruction names is the field k of T -/
def FL (own : String) (index : Nat) (T : u_T) (k : Nat) : Prop := ∃ ref : String, Cond.fieldLink own index ref (T k).2.1 (T k).2.2.1 ∈ lw_tbl ∧ ((T k).1 = ref ∨ Cond.sameField ref (T k).1 (T k).2.1 (T k).2.2.1 ∈ lw_tbl)
def hset (h : MH) (a : Nat) (c : MC) : MH := fun b => if b = a then some c else h b
theorem RW.set {E : Ev} {h : MH} {sz a : Nat} {c2 : MC} {H H2 : Heap} (hR : RW E h sz H) (hz : H2.size = H.size) (hq : ∀ q, q ≠ eb E + a → H2[q]? = H[q]?) (hok : okC c2) (hat : va_at E.1 classes (eb E + a, ec E c2) H2) : RW E (hset h a c2) sz H2 := by
  refine ⟨by rw [hz]; exact hR.1, fun b c hb => ?_⟩
  unfold hset at hb
  split at hb
  · rename_i e; cases hb; subst e; exact ⟨hok, hat⟩
  · rename_i e
    have := hR.2 b c hb
    exact ⟨this.1, this.2.kept (hq _ (by show eb E + b ≠ eb E + a; omega))⟩
theorem RW.push {E : Ev} {h : MH} {sz : Nat} {c2 : MC} {H H2 : Heap} (hR : RW E h sz H) (hz : H2.size = H.size + 1) (hq : ∀ q, q < H.size → H2[q]? = H[q]?) (hok : okC c2) (hat : va_at E.1 classes (eb E + sz, ec E c2) H2) : RW E (hset h sz c2) (sz + 1) H2 := by
  refine ⟨by rw [hz, hR.1]; omega, fun b c hb => ?_⟩
  unfold hset at hb
  split at hb
  · rename_i e; cases hb; subst e; exact ⟨hok, hat⟩
  · have := hR.2 b c hb
    exact ⟨this.1, this.2.kept (hq _ this.2.lt)⟩
theorem hset_F {E : Ev} {F : Nat → Prop} {h : MH} {a : Nat} {c2 : MC} (hF : ∀ a c, h a = some c → F (eb E + a)) (ha : F (eb E + a)) : ∀ b c, hset h a c2 b = some c → F (eb E + b) := by
  intro b c hb
  unfold hset at hb
  split at hb
  · rename_i e; subst e; exact ha
  · exact hF b c hb
theorem va_S.push1 {F : Nat → Prop} {H0 H H2 : Heap} {locs : List Loc} (hS : va_S F H0 H locs) (hz : H2.size = H.size + 1) (hq : ∀ q, q < H.size → H2[q]? = H[q]?) : va_S F H0 H2 locs := ⟨Nat.le_trans hS.1 (by omega), fun q g1 g2 => (hq q (Nat.lt_of_lt_of_le g1 hS.1)).trans (hS.2.1 q g1 g2), hS.2.2⟩
section HR
variable {M : MD} {d pc : Nat} {ls : List (Option MV)} {st : List MV} {h : MH} {sz kc ks : Nat} {Q : QT}
theorem V.getf {index ci a N : Nat} {C : String} {T : u_T} {ty : Nat → FieldType} {fs : List MV} {v : MV} (k : Nat) (hC : Cls ci C T N ty) (hf : FL M.1.cls index T k) (hd : decode M.2.1 pc = .ok (.getfield index, 3)) (ha : h a = some (kO ci fs)) (hk : k < N) (hv : fs[k]? = some v)
    (kk : V M d (pc + 3) ls (v :: st) h sz kc ks Q) : V M d pc ls (vR a :: st) h sz kc ks Q := by
  intro p l e R s m args below meth c Z E F cM sM C1 H locs cells slots lv hR hF hS hL hst h1 h2
  obtain ⟨⟨hx, hb, hml, hown, hnm⟩, hSF, hFF, hrm, hret⟩ := id C1
  obtain ⟨hok, hat⟩ := hR.2 a _ ha
  obtain ⟨hcl, hin, hty, hnn⟩ := hC
  obtain ⟨ref, hl1, hl2⟩ := hf
  have hP : va_P E.1 classes [(eb E + a, .inr (ci, fs.map (cv E)))] H := fun j q hq => by
    match j, hq with
    | 0, hq => cases hq; exact hat
    | j + 1, hq => cases hq
  refine va_get (D := E.1) (cl := classes) (tys := ty4 E) (C := C) (T := T) (N := N) (ci := ci) (ref := ref) (v := cv E v) hx hb (hSF.hts args) (in_gT hin) hown hSF.1 hP 0 rfl hcl k hk (hSF.w hl1 rfl args) ?_ (by rw [List.getElem?_map, hv]; rfl) hd ?_
  · intro x hx2
    rcases hl2 with e1 | hl2
    · rw [← e1]; exact hx2
    · exact u_same (hSF.w hl2 rfl args) x hx2
  · exact kk p l e R s m args below meth c Z E F cM sM C1 H locs cells slots lv hR hF hS hL (okp (hok v (List.mem_of_getElem? hv)) (okt hst)) h1 h2
theorem V.putf {index ci a N : Nat} {C : String} {T : u_T} {ty : Nat → FieldType} {fs : List MV} {v : MV} (k : Nat) (hC : Cls ci C T N ty) (hf : FL M.1.cls index T k) (hd : decode M.2.1 pc = .ok (.putfield index, 3)) (ha : h a = some (kO ci fs)) (hk : k < N) (hl : k < fs.length) (hfin : (T k).2.2.2 = false) (hn : ∀ E, narrow (ty k) (cv E v) = cv E v ∧ fits (ty k) (cv E v) = true)
    (kk : V M d (pc + 3) ls st (hset h a (kO ci (fs.set k v))) sz kc ks Q) : V M d pc ls (v :: vR a :: st) h sz kc ks Q := by
  intro p l e R s m args below meth c Z E F cM sM C1 H locs cells slots lv hR hF hS hL hst h1 h2
  obtain ⟨⟨hx, hb, hml, hown, hnm⟩, hSF, hFF, hrm, hret⟩ := id C1
  obtain ⟨hok, hat⟩ := hR.2 a _ ha
  obtain ⟨hcl, hin, hty, hnn⟩ := hC
  obtain ⟨ref, hl1, hl2⟩ := hf
  have hin := in_gT hin
  have hts := hSF.hts args
  have hap := va_apart (own := M.1.cls) hts hin ty hty hnn hSF.1 hcl
  obtain ⟨r, g1, cell, q1, q2, q3, q4⟩ := hat
  have hr : r = (C, T, N) := Option.some.inj (g1.symm.trans hcl)
  subst hr
  obtain ⟨hS1, hfc, kC, hkC, hkind⟩ := hSF.1.1 ci _ hcl
  obtain ⟨cf, kf, fi, f, hi, hsl⟩ := hS1 k hk
  have hlay := hts _ (hin _ (u_in_lay hk))
  unfold u_lay at hlay
  rw [if_neg (by rw [hfin]; decide)] at hlay
  have hst2 := (u_facts hfc hkC (u_lays hts hin hk) hi).1
  have hsame : s.fieldFound? ref (T k).2.1 (T k).2.2.1 = some (cf, kf, fi, f) := by
    rcases hl2 with e1 | hl2
    · rw [← e1]; exact hi
    · exact u_same (hSF.w hl2 rfl args) _ hi
  have h6 := u_store hfc hkC hkind hlay hi (hty k hk) (hn E).1 (hn E).2
  refine W.putK hx hb (f := f) ⟨hown, hSF.w hl1 rfl args, ⟨_, _, _, hsame⟩, hst2⟩ (by rw [q2]; exact h6) q1 q3 (by rw [hsl]; exact k2_hasslot (q4 k hk)) rfl rfl hd fun H' e1 e2 e3 => ?_
  rw [hsl] at e1 ⊢
  have hR2 : RW E (hset h a (kO ci (fs.set k v))) sz H' := by
    refine hR.set e2 e3 ?_ ⟨_, hcl, t_OB.to (V := updV (vp_V (fs.map (cv E))) k (cv E v)) ⟨_, e1, q2, q3, t_set q4 hap hk (cv E v)⟩ (fun j _ => ?_)⟩
    · intro w hw
      rcases List.mem_or_eq_of_mem_set hw with hw | rfl
      · exact hok w hw
      · exact okh hst
    · have e9 := vp_updV_set (fs := fs.map (cv E)) (k := k) (by rw [List.length_map]; exact hl) (cv E v) j
      rw [← List.map_set] at e9
      exact e9
  exact kk p l e R s m args below meth c Z E F cM sM C1 H' _ cells slots lv hR2 (hset_F hF (hF a _ ha)) (hS.put e2 e3 (hF a _ ha)) hL (okt (okt hst)) h1 h2
theorem V.putF {index ci a N : Nat} {C : String} {T : u_T} {ty : Nat → FieldType} {fs : List MV} {v : MV} (k : Nat) (hC : Cls ci C T N ty) (hf : FL M.1.cls index T k) (hd : decode M.2.1 pc = .ok (.putfield index, 3)) (ha : h a = some (kO ci fs)) (hk : k < N) (hl : k < fs.length) (hfin : (T k).2.2.2 = true) (hin2 : M.1.name = "<init>") (hdecl : (T k).1 = M.1.cls) (hn : ∀ E, narrow (ty k) (cv E v) = cv E v ∧ fits (ty k) (cv E v) = true)
    (kk : V M d (pc + 3) ls st (hset h a (kO ci (fs.set k v))) sz kc ks Q) : V M d pc ls (v :: vR a :: st) h sz kc ks Q := by
  intro p l e R s m args below meth c Z E F cM sM C1 H locs cells slots lv hR hF hS hL hst h1 h2
  obtain ⟨⟨hx, hb, hml, hown, hnm⟩, hSF, hFF, hrm, hret⟩ := id C1
  obtain ⟨hok, hat⟩ := hR.2 a _ ha
  obtain ⟨hcl, hin, hty, hnn⟩ := hC
  obtain ⟨ref, hl1, hl2⟩ := hf
  have hin := in_gT hin
  have hts := hSF.hts args
  have hap := va_apart (own := M.1.cls) hts hin ty hty hnn hSF.1 hcl
  obtain ⟨r, g1, cell, q1, q2, q3, q4⟩ := hat
  have hr : r = (C, T, N) := Option.some.inj (g1.symm.trans hcl)
  subst hr
  obtain ⟨hS1, hfc, kC, hkC, hkind⟩ := hSF.1.1 ci _ hcl
  obtain ⟨cf, kf, fi, f, hi, hsl⟩ := hS1 k hk
  have hlay := hts _ (hin _ (u_in_lay hk))
  unfold u_lay at hlay
  rw [if_pos hfin] at hlay
  have hst2 := (u_facts hfc hkC (u_lays hts hin hk) hi).1
  have hsame : s.fieldFound? ref (T k).2.1 (T k).2.2.1 = some (cf, kf, fi, f) := by
    rcases hl2 with e1 | hl2
    · rw [← e1]; exact hi
    · exact u_same (hSF.w hl2 rfl args) _ hi
  have hcf : m.cls = cf := by
    obtain ⟨_, _, c', _, _, _, -, -, hf', -, -, -, hown2, -⟩ := Cond.laysFinal_spec hlay
    have e1 : c' = cf := by have := hi.symm.trans hf'; simp at this; exact this.1.symm
    rw [hdecl] at hown2
    rw [← e1]; exact Option.some.inj (hown.symm.trans hown2)
  have h6 := u_fits hfc hkC hkind (Or.inr hlay) hi (hty k hk) (hn E).1 (hn E).2
  refine W.putFinK hx hb hown (hSF.w hl1 rfl args) hsame hst2 hcf (by rw [hnm]; exact hin2) (by rw [q2]; exact h6) q1 q3 (by rw [hsl]; exact k2_hasslot (q4 k hk)) rfl rfl hd fun H' e1 e2 e3 => ?_
  rw [hsl] at e1 ⊢
  have hR2 : RW E (hset h a (kO ci (fs.set k v))) sz H' := by
    refine hR.set e2 e3 ?_ ⟨_, hcl, t_OB.to (V := updV (vp_V (fs.map (cv E))) k (cv E v)) ⟨_, e1, q2, q3, t_set q4 hap hk (cv E v)⟩ (fun j _ => ?_)⟩
    · intro w hw
      rcases List.mem_or_eq_of_mem_set hw with hw | rfl
      · exact hok w hw
      · exact okh hst
    · have e9 := vp_updV_set (fs := fs.map (cv E)) (k := k) (by rw [List.length_map]; exact hl) (cv E v) j
      rw [← List.map_set] at e9
      exact e9
  exact kk p l e R s m args below meth c Z E F cM sM C1 H' _ cells slots lv hR2 (hset_F hF (hF a _ ha)) (hS.put e2 e3 (hF a _ ha)) hL (okt (okt hst)) h1 h2
theorem V.new {index ci N : Nat} {C : String} {T : u_T} {ty : Nat → FieldType} (fs : List MV) {kc2 ks2 : Nat} (hC : Cls ci C T N ty) (hw1 : Cond.classLink M.1.cls index C ∈ lw_tbl) (hw2 : Cond.instantiable C N ∈ lw_tbl) (hw3 : Cond.initialized C ∈ lw_tbl) (hd : decode M.2.1 pc = .ok (.new index, 3)) (hfs : ∀ E, ∀ j, j < N → defaultValue (ty j) = vp_V (fs.map (cv E)) j) (hok : ∀ v ∈ fs, okV v) (g1 : kc2 + 1 ≤ kc) (g2 : ks2 + N ≤ ks)
    (kk : V M d (pc + 3) ls (vR sz :: st) (hset h sz (kO ci fs)) (sz + 1) kc2 ks2 Q) : V M d pc ls st h sz kc ks Q := by
  intro p l e R s m args below meth c Z E F cM sM C1 H locs cells slots lv hR hF hS hL hst h1 h2
  obtain ⟨⟨hx, hb, hml, hown, hnm⟩, hSF, hFF, hrm, hret⟩ := id C1
  obtain ⟨hcl, hin, hty, hnn⟩ := hC
  have hKn := hSF.1.1 ci _ hcl
  refine W.newcK hx hb hown (hSF.w hw1 rfl args) (hSF.w hw2 rfl args) (hSF.w hw3 rfl args) rfl hd (by omega) (by omega) hKn.2.1 rfl fun H1 kC hkC e1 z1 o1 => ?_
  have hsz : H.size = eb E + sz := hR.1
  have hR2 : RW E (hset h sz (kO ci fs)) (sz + 1) H1 := by
    refine hR.push z1 o1 hok ⟨_, hcl, ?_⟩
    rw [← hsz]
    exact (u_born ty (hSF.hts args) (in_gT hin) hKn hkC e1 hty).to (hfs E)
  have hk := kk p l e R s m args below meth c Z E F cM sM C1 H1 locs (cells + 1) (slots + N) lv hR2 (hset_F hF (by rw [← hsz]; exact hFF.1 _ hS.1)) (hS.push1 z1 o1) hL (okp (v := vR sz) trivial hst) (by omega) (by omega)
  rw [hsz]
  exact hk
theorem V.newi (t : Nat) {n : Int} {kc2 ks2 : Nat} (hd : decode M.2.1 pc = .ok (.newarray .int, 2)) (h0 : 0 ≤ n) (hb0 : n ≤ 100000) (g1 : kc2 + 1 ≤ kc) (g2 : ks2 + n.toNat ≤ ks)
    (kk : V M d (pc + 2) ls (vR sz :: st) (hset h sz (kA t n.toNat (fun _ => 0))) (sz + 1) kc2 ks2 Q) : V M d pc ls (vI n :: st) h sz kc ks Q := by
  intro p l e R s m args below meth c Z E F cM sM C1 H locs cells slots lv hR hF hS hL hst h1 h2
  obtain ⟨⟨hx, hb, hml, hown, hnm⟩, hSF, hFF, hrm, hret⟩ := id C1
  have hn : i32 n := okh hst
  have hcl : (Int32.ofInt n).toNatClampNeg = n.toNat := i32_cl hn
  refine va_newaK (atype := .int) hx hb (hSF.w (w := .arrayClass .int) (by decide +kernel) rfl args) rfl hd rfl (by rw [show (0 : Int32) = Int32.ofInt 0 from rfl, i32_lt hn i32_0]; omega) hcl (by show n.toNat * 4 ≤ _; omega) (by omega) (by omega) rfl fun H1 cA e1 z1 o1 hAr hNm => ?_
  have hsz : H.size = eb E + sz := hR.1
  have hcA : cA = E.2.1 0 := Option.some.inj (hNm.symm.trans (hSF.1.2 0 _ rfl).2)
  subst hcA
  have hR2 : RW E (hset h sz (kA t n.toNat (fun _ => 0))) (sz + 1) H1 := by
    refine hR.push z1 o1 ⟨by omega, fun j hj => ⟨i32_0, fun q => by cases q⟩⟩ ?_
    rw [← hsz]
    exact e1
  have hk := kk p l e R s m args below meth c Z E F cM sM C1 H1 locs (cells + 1) (slots + n.toNat) lv hR2 (hset_F hF (by rw [← hsz]; exact hFF.1 _ hS.1)) (hS.push1 z1 o1) hL (okp (v := vR sz) trivial (okt hst)) (by omega) (by omega)
  rw [hsz]
  exact hk
theorem V.newz {n : Int} {kc2 ks2 : Nat} (hd : decode M.2.1 pc = .ok (.newarray .boolean, 2)) (h0 : 0 ≤ n) (hb0 : n ≤ 100000) (g1 : kc2 + 1 ≤ kc) (g2 : ks2 + n.toNat ≤ ks)
    (kk : V M d (pc + 2) ls (vR sz :: st) (hset h sz (kZ n.toNat (fun _ => 0))) (sz + 1) kc2 ks2 Q) : V M d pc ls (vI n :: st) h sz kc ks Q := by
  intro p l e R s m args below meth c Z E F cM sM C1 H locs cells slots lv hR hF hS hL hst h1 h2
  obtain ⟨⟨hx, hb, hml, hown, hnm⟩, hSF, hFF, hrm, hret⟩ := id C1
  have hn : i32 n := okh hst
  have hcl : (Int32.ofInt n).toNatClampNeg = n.toNat := i32_cl hn
  refine va_newaK (atype := .boolean) hx hb (hSF.w (w := .arrayClass .boolean) (by decide +kernel) rfl args) rfl hd rfl (by rw [show (0 : Int32) = Int32.ofInt 0 from rfl, i32_lt hn i32_0]; omega) hcl (by show n.toNat * 1 ≤ _; omega) (by omega) (by omega) rfl fun H1 cA e1 z1 o1 hAr hNm => ?_
  have hsz : H.size = eb E + sz := hR.1
  have hcA : cA = E.2.1 1 := Option.some.inj (hNm.symm.trans (hSF.1.2 1 _ rfl).2)
  subst hcA
  have hR2 : RW E (hset h sz (kZ n.toNat (fun _ => 0))) (sz + 1) H1 := by
    refine hR.push z1 o1 ⟨by omega, fun j hj => ⟨i32_0, fun q => Or.inl rfl⟩⟩ ?_
    rw [← hsz]
    exact e1
  have hk := kk p l e R s m args below meth c Z E F cM sM C1 H1 locs (cells + 1) (slots + n.toNat) lv hR2 (hset_F hF (by rw [← hsz]; exact hFF.1 _ hS.1)) (hS.push1 z1 o1) hL (okp (v := vR sz) trivial (okt hst)) (by omega) (by omega)
  rw [hsz]
  exact hk
theorem V.newr0 {index : Nat} {n : Int} {kc2 ks2 : Nat} (hw1 : Cond.classLink M.1.cls index "RiverRoad$Sheet" ∈ lw_tbl) (hd : decode M.2.1 pc = .ok (.anewarray index, 3)) (h0 : 0 ≤ n) (hb0 : n ≤ 100000) (g1 : kc2 + 1 ≤ kc) (g2 : ks2 + n.toNat ≤ ks)
    (kk : V M d (pc + 3) ls (vR sz :: st) (hset h sz (kR 0 n.toNat (fun _ => none))) (sz + 1) kc2 ks2 Q) : V M d pc ls (vI n :: st) h sz kc ks Q := by
  intro p l e R s m args below meth c Z E F cM sM C1 H locs cells slots lv hR hF hS hL hst h1 h2
  obtain ⟨⟨hx, hb, hml, hown, hnm⟩, hSF, hFF, hrm, hret⟩ := id C1
  have hn : i32 n := okh hst
  have hcl : (Int32.ofInt n).toNatClampNeg = n.toNat := i32_cl hn
  have hov : va_AO "RiverRoad$Sheet" s := hSF.2.2.2.2.2.2.1
  refine W.anew hx hb hown (hSF.w hw1 rfl args) (va_AO.use hov) rfl hd rfl (by rw [show (0 : Int32) = Int32.ofInt 0 from rfl, i32_lt hn i32_0]; omega) (by rw [hcl]; omega) (by omega) (by rw [hcl]; omega) fun cA kA comp f1 f2 f3 f4 => ?_
  rw [hcl]
  have hsz : H.size = eb E + sz := hR.1
  obtain ⟨kA2, comp2, a1, a2, a3, a4⟩ := (hSF.1.2 2 _ rfl).2
  have hcA : cA = E.2.1 2 := Option.some.inj (f1.symm.trans a4)
  subst hcA
  generalize hH1 : H.push ({ cls := E.2.1 2, slots := Array.replicate n.toNat .null, vm := .none } : Cell) = H1
  have z1 : H1.size = H.size + 1 := by rw [← hH1, Array.size_push]
  have e1 : H1[H.size]? = some (arrV (E.2.1 2) n.toNat (fun _ => .null)) := by rw [← hH1, Array.getElem?_push_size, ← arrV_new]
  have o1 : ∀ q : Nat, q < H.size → H1[q]? = H[q]? := fun q hq => by rw [← hH1, Array.getElem?_push, if_neg (Nat.ne_of_lt hq)]
  have hR2 : RW E (hset h sz (kR 0 n.toNat (fun _ => none))) (sz + 1) H1 := by
    refine hR.push z1 o1 (show n.toNat < 2147483648 by omega) ?_
    rw [← hsz]
    exact e1
  have hk := kk p l e R s m args below meth c Z E F cM sM C1 H1 locs (cells + 1) (slots + n.toNat) lv hR2 (hset_F hF (by rw [← hsz]; exact hFF.1 _ hS.1)) (hS.push1 z1 o1) hL (okp (v := vR sz) trivial (okt hst)) (by omega) (by omega)
  rw [hsz]
  exact hk
theorem V.newr1 {index : Nat} {n : Int} {kc2 ks2 : Nat} (hw1 : Cond.classLink M.1.cls index "RiverRoad$Thing" ∈ lw_tbl) (hd : decode M.2.1 pc = .ok (.anewarray index, 3)) (h0 : 0 ≤ n) (hb0 : n ≤ 100000) (g1 : kc2 + 1 ≤ kc) (g2 : ks2 + n.toNat ≤ ks)
    (kk : V M d (pc + 3) ls (vR sz :: st) (hset h sz (kR 1 n.toNat (fun _ => none))) (sz + 1) kc2 ks2 Q) : V M d pc ls (vI n :: st) h sz kc ks Q := by
  intro p l e R s m args below meth c Z E F cM sM C1 H locs cells slots lv hR hF hS hL hst h1 h2
  obtain ⟨⟨hx, hb, hml, hown, hnm⟩, hSF, hFF, hrm, hret⟩ := id C1
  have hn : i32 n := okh hst
  have hcl : (Int32.ofInt n).toNatClampNeg = n.toNat := i32_cl hn
  have hov : va_AO "RiverRoad$Thing" s := hSF.2.2.2.2.2.2.2.1
  refine W.anew hx hb hown (hSF.w hw1 rfl args) (va_AO.use hov) rfl hd rfl (by rw [show (0 : Int32) = Int32.ofInt 0 from rfl, i32_lt hn i32_0]; omega) (by rw [hcl]; omega) (by omega) (by rw [hcl]; omega) fun cA kA comp f1 f2 f3 f4 => ?_
  rw [hcl]
  have hsz : H.size = eb E + sz := hR.1
  obtain ⟨kA2, comp2, a1, a2, a3, a4⟩ := (hSF.1.2 3 _ rfl).2
  have hcA : cA = E.2.1 3 := Option.some.inj (f1.symm.trans a4)
  subst hcA
  generalize hH1 : H.push ({ cls := E.2.1 3, slots := Array.replicate n.toNat .null, vm := .none } : Cell) = H1
  have z1 : H1.size = H.size + 1 := by rw [← hH1, Array.size_push]
  have e1 : H1[H.size]? = some (arrV (E.2.1 3) n.toNat (fun _ => .null)) := by rw [← hH1, Array.getElem?_push_size, ← arrV_new]
  have o1 : ∀ q : Nat, q < H.size → H1[q]? = H[q]? := fun q hq => by rw [← hH1, Array.getElem?_push, if_neg (Nat.ne_of_lt hq)]
  have hR2 : RW E (hset h sz (kR 1 n.toNat (fun _ => none))) (sz + 1) H1 := by
    refine hR.push z1 o1 (show n.toNat < 2147483648 by omega) ?_
    rw [← hsz]
    exact e1
  have hk := kk p l e R s m args below meth c Z E F cM sM C1 H1 locs (cells + 1) (slots + n.toNat) lv hR2 (hset_F hF (by rw [← hsz]; exact hFF.1 _ hS.1)) (hS.push1 z1 o1) hL (okp (v := vR sz) trivial (okt hst)) (by omega) (by omega)
  rw [hsz]
  exact hk
theorem V.iald {a t n : Nat} {f : Nat → Int} {i : Int} (hd : decode M.2.1 pc = .ok (.iaload, 1)) (ha : h a = some (kA t n f)) (h0 : 0 ≤ i) (h9 : i < n) (kk : V M d (pc + 1) ls (vI (f i.toNat) :: st) h sz kc ks Q) : V M d pc ls (vI i :: vR a :: st) h sz kc ks Q := by
  intro p l e R s m args below meth c Z E F cM sM C1 H locs cells slots lv hR hF hS hL hst h1 h2
  obtain ⟨⟨hx, hb, hml, hown, hnm⟩, hSF, hFF, hrm, hret⟩ := id C1
  have hi : i32 i := okh hst
  obtain ⟨hok, hat⟩ := hR.2 a _ ha
  have hP : va_P E.1 classes [(eb E + a, .inl (E.2.1 0, n, .inl (fun j => Int32.ofInt (f j))))] H := fun j q hq => by
    match j, hq with
    | 0, hq => cases hq; exact hat
    | j + 1, hq => cases hq
  refine va_iald (D := E.1) (cl := classes) (tys := ty4 E) hx hb hSF.1 hP 0 0 rfl rfl (i32_in hi h0 h9) hd ?_
  rw [i32_cl hi]
  exact kk p l e R s m args below meth c Z E F cM sM C1 H locs cells slots lv hR hF hS hL (okp (v := vI _) (hok.2 _ (by omega)).1 (okt (okt hst))) h1 h2
theorem V.zald {a n : Nat} {f : Nat → Int} {i : Int} (hd : decode M.2.1 pc = .ok (.baload, 1)) (ha : h a = some (kZ n f)) (h0 : 0 ≤ i) (h9 : i < n) (kk : V M d (pc + 1) ls (vI (f i.toNat) :: st) h sz kc ks Q) : V M d pc ls (vI i :: vR a :: st) h sz kc ks Q := by
  intro p l e R s m args below meth c Z E F cM sM C1 H locs cells slots lv hR hF hS hL hst h1 h2
  obtain ⟨⟨hx, hb, hml, hown, hnm⟩, hSF, hFF, hrm, hret⟩ := id C1
  have hi : i32 i := okh hst
  obtain ⟨hok, hat⟩ := hR.2 a _ ha
  have hP : va_P E.1 classes [(eb E + a, .inl (E.2.1 1, n, .inl (fun j => Int32.ofInt (f j))))] H := fun j q hq => by
    match j, hq with
    | 0, hq => cases hq; exact hat
    | j + 1, hq => cases hq
  refine va_zald (D := E.1) (cl := classes) (tys := ty4 E) hx hb hSF.1 hP 0 1 rfl rfl (i32_in hi h0 h9) hd ?_
  rw [i32_cl hi]
  exact kk p l e R s m args below meth c Z E F cM sM C1 H locs cells slots lv hR hF hS hL (okp (v := vI _) (hok.2 _ (by omega)).1 (okt (okt hst))) h1 h2
theorem cv_vQ (E : Ev) (o : Option Nat) : va_rf (cq E o) = cv E (vQ o) := by cases o <;> rfl
theorem V.aald0 {a n : Nat} {g : Nat → Option Nat} {i : Int} (hd : decode M.2.1 pc = .ok (.aaload, 1)) (ha : h a = some (kR 0 n g)) (h0 : 0 ≤ i) (h9 : i < n) (kk : V M d (pc + 1) ls (vQ (g i.toNat) :: st) h sz kc ks Q) : V M d pc ls (vI i :: vR a :: st) h sz kc ks Q := by
  intro p l e R s m args below meth c Z E F cM sM C1 H locs cells slots lv hR hF hS hL hst h1 h2
  obtain ⟨⟨hx, hb, hml, hown, hnm⟩, hSF, hFF, hrm, hret⟩ := id C1
  have hi : i32 i := okh hst
  obtain ⟨hok, hat⟩ := hR.2 a _ ha
  have hP : va_P E.1 classes [(eb E + a, .inl (E.2.1 2, n, .inr (.inr (.inr (.inr (fun j => cq E (g j)))))))] H := fun j q hq => by
    match j, hq with
    | 0, hq => cases hq; exact hat
    | j + 1, hq => cases hq
  refine va_aldq (D := E.1) (cl := classes) (tys := ty4 E) hx hb hSF.1 hP 0 2 rfl rfl (i32_in hi h0 h9) hd ?_
  rw [i32_cl hi, cv_vQ]
  exact kk p l e R s m args below meth c Z E F cM sM C1 H locs cells slots lv hR hF hS hL (okp (v := vQ _) trivial (okt (okt hst))) h1 h2
theorem V.aald1 {a n : Nat} {g : Nat → Option Nat} {i : Int} (hd : decode M.2.1 pc = .ok (.aaload, 1)) (ha : h a = some (kR 1 n g)) (h0 : 0 ≤ i) (h9 : i < n) (kk : V M d (pc + 1) ls (vQ (g i.toNat) :: st) h sz kc ks Q) : V M d pc ls (vI i :: vR a :: st) h sz kc ks Q := by
  intro p l e R s m args below meth c Z E F cM sM C1 H locs cells slots lv hR hF hS hL hst h1 h2
  obtain ⟨⟨hx, hb, hml, hown, hnm⟩, hSF, hFF, hrm, hret⟩ := id C1
  have hi : i32 i := okh hst
  obtain ⟨hok, hat⟩ := hR.2 a _ ha
  have hP : va_P E.1 classes [(eb E + a, .inl (E.2.1 3, n, .inr (.inr (.inr (.inr (fun j => cq E (g j)))))))] H := fun j q hq => by
    match j, hq with
    | 0, hq => cases hq; exact hat
    | j + 1, hq => cases hq
  refine va_aldq (D := E.1) (cl := classes) (tys := ty4 E) hx hb hSF.1 hP 0 3 rfl rfl (i32_in hi h0 h9) hd ?_
  rw [i32_cl hi, cv_vQ]
  exact kk p l e R s m args below meth c Z E F cM sM C1 H locs cells slots lv hR hF hS hL (okp (v := vQ _) trivial (okt (okt hst))) h1 h2
/-- a table with place i set -/
def upf (f : Nat → Int) (i : Nat) (x : Int) : Nat → Int := fun j => if j = i then x else f j
def upq (g : Nat → Option Nat) (i : Nat) (x : Option Nat) : Nat → Option Nat := fun j => if j = i then x else g j
theorem V.iast {a t n : Nat} {f : Nat → Int} {i x : Int} (hd : decode M.2.1 pc = .ok (.iastore, 1)) (ha : h a = some (kA t n f)) (h0 : 0 ≤ i) (h9 : i < n) (kk : V M d (pc + 1) ls st (hset h a (kA t n (upf f i.toNat x))) sz kc ks Q) : V M d pc ls (vI x :: vI i :: vR a :: st) h sz kc ks Q := by
  intro p l e R s m args below meth c Z E F cM sM C1 H locs cells slots lv hR hF hS hL hst h1 h2
  obtain ⟨⟨hx, hb, hml, hown, hnm⟩, hSF, hFF, hrm, hret⟩ := id C1
  have hi : i32 i := okh (okt hst)
  obtain ⟨hok, hat⟩ := hR.2 a _ ha
  have hat : H[eb E + a]? = some (arrV (E.2.1 0) n (fun j => .int (Int32.ofInt (f j)))) := hat
  refine W.iast hx hb hat ((hSF.1.2 0 _ rfl).1 n (fun j => .int (Int32.ofInt (f j)))) (fun q => by cases q) (by rw [arrV_size]; exact i32_in hi h0 h9) rfl rfl hd fun H1 e8 z oq => ?_
  have hR2 : RW E (hset h a (kA t n (upf f i.toNat x))) sz H1 := by
    refine hR.set z oq ⟨hok.1, fun j hj => ⟨?_, fun q => by cases q⟩⟩ ?_
    · unfold upf; split
      · exact okh hst
      · exact (hok.2 j hj).1
    · show H1[eb E + a]? = some (arrV (E.2.1 0) n (fun j => .int (Int32.ofInt (upf f i.toNat x j))))
      rw [e8, arrV_store, i32_cl hi]
      congr 2
      funext q
      by_cases hq : q = i.toNat
      · subst hq; simp [updV, upf]
      · simp [updV, upf, hq]
  exact kk p l e R s m args below meth c Z E F cM sM C1 H1 _ cells slots lv hR2 (hset_F hF (hF a _ ha)) (hS.put z oq (hF a _ ha)) hL (okt (okt (okt hst))) h1 h2
theorem V.zast {a n : Nat} {f : Nat → Int} {i x : Int} (hd : decode M.2.1 pc = .ok (.bastore, 1)) (ha : h a = some (kZ n f)) (h0 : 0 ≤ i) (h9 : i < n) (hx0 : x = 0 ∨ x = 1) (kk : V M d (pc + 1) ls st (hset h a (kZ n (upf f i.toNat x))) sz kc ks Q) : V M d pc ls (vI x :: vI i :: vR a :: st) h sz kc ks Q := by
  intro p l e R s m args below meth c Z E F cM sM C1 H locs cells slots lv hR hF hS hL hst h1 h2
  obtain ⟨⟨hx, hb, hml, hown, hnm⟩, hSF, hFF, hrm, hret⟩ := id C1
  have hi : i32 i := okh (okt hst)
  obtain ⟨hok, hat⟩ := hR.2 a _ ha
  have hat : H[eb E + a]? = some (arrV (E.2.1 1) n (fun j => .int (Int32.ofInt (f j)))) := hat
  have hnar : narrow .boolean (.int (Int32.ofInt x)) = .int (Int32.ofInt x) := by rcases hx0 with rfl | rfl <;> rfl
  refine W.zast hx hb hat ((hSF.1.2 1 _ rfl).1 n (fun j => .int (Int32.ofInt (f j)))) (fun q => by cases q) (by rw [arrV_size]; exact i32_in hi h0 h9) rfl rfl hd fun H1 e8 z oq => ?_
  rw [hnar] at e8
  have hR2 : RW E (hset h a (kZ n (upf f i.toNat x))) sz H1 := by
    refine hR.set z oq ⟨hok.1, fun j hj => ?_⟩ ?_
    · unfold upf; split
      · exact ⟨okh hst, fun _ => hx0⟩
      · exact hok.2 j hj
    · show H1[eb E + a]? = some (arrV (E.2.1 1) n (fun j => .int (Int32.ofInt (upf f i.toNat x j))))
      rw [e8, arrV_store, i32_cl hi]
      congr 2
      funext q
      by_cases hq : q = i.toNat
      · subst hq; simp [updV, upf]
      · simp [updV, upf, hq]
  exact kk p l e R s m args below meth c Z E F cM sM C1 H1 _ cells slots lv hR2 (hset_F hF (hF a _ ha)) (hS.put z oq (hF a _ ha)) hL (okt (okt (okt hst))) h1 h2
theorem V.aast0 {a n b ci N : Nat} {C : String} {T : u_T} {ty : Nat → FieldType} {fs : List MV} {g : Nat → Option Nat} {i : Int} (hC : Cls ci C T N ty) (hca : C = "RiverRoad$Sheet" ∨ (C, "RiverRoad$Sheet") ∈ caL) (hd : decode M.2.1 pc = .ok (.aastore, 1)) (ha : h a = some (kR 0 n g)) (hb9 : h b = some (kO ci fs)) (h0 : 0 ≤ i) (h9 : i < n) (kk : V M d (pc + 1) ls st (hset h a (kR 0 n (upq g i.toNat (some b)))) sz kc ks Q) : V M d pc ls (vR b :: vI i :: vR a :: st) h sz kc ks Q := by
  intro p l e R s m args below meth c Z E F cM sM C1 H locs cells slots lv hR hF hS hL hst h1 h2
  obtain ⟨⟨hx, hb, hml, hown, hnm⟩, hSF, hFF, hrm, hret⟩ := id C1
  have hi : i32 i := okh (okt hst)
  obtain ⟨hok, hat⟩ := hR.2 a _ ha
  obtain ⟨hokb, r, hr1, cellV, g1, g2, g3, g4⟩ := hR.2 b _ hb9
  have hat : H[eb E + a]? = some (arrV (E.2.1 2) n (fun j => va_rf (cq E (g j)))) := hat
  obtain ⟨hcl, -, -, -⟩ := hC
  have hcls := (hSF.1.1 ci _ hcl).2
  obtain ⟨kA, comp, k1, k2, k3, -⟩ := (hSF.1.2 2 _ rfl).2
  obtain ⟨kE, hkE, -⟩ := Vm.findClass_spec k3
  obtain ⟨kC, hkC, -⟩ := hcls.2
  have hasg : s.vm.assignable (E.1.1 ci) comp = true := by
    rcases hca with e1 | hca
    · have e2 : s.vm.findClass "RiverRoad$Sheet" = some (E.1.1 ci) := by rw [← e1]; exact hcls.1
      cases k3.symm.trans e2
      exact va_assign hcls
    · obtain ⟨c0, t1, f1, f2, f3⟩ := Cond.castable_spec (va_Nw.use (A := args) rfl (hSF.2.2.1 _ hca))
      cases hcls.1.symm.trans f1
      cases k3.symm.trans f2
      exact f3
  refine W.aast hx hb hat (fun q hq => by cases hq) (fun hq => by cases hq) k1 k2 rfl hkE ⟨by rw [show (0 : Int32) = Int32.ofInt 0 from rfl, i32_lt hi i32_0]; omega, by rw [arrV_size, i32_cl hi]; omega⟩ g1 (fun q hq => by rw [g3] at hq; cases hq) (by rw [g2]; exact hkC) (by rw [g2]; exact hasg) rfl rfl hd fun H1 e8 z oq => ?_
  have hR2 : RW E (hset h a (kR 0 n (upq g i.toNat (some b)))) sz H1 := by
    refine hR.set z oq hok ?_
    show H1[eb E + a]? = some (arrV (E.2.1 2) n (fun j => va_rf (cq E (upq g i.toNat (some b) j))))
    rw [e8, arrV_store, i32_cl hi]
    congr 2
    funext q
    by_cases hq : q = i.toNat
    · subst hq; simp [updV, upq, va_rf, cq]
    · simp [updV, upq, hq]
  exact kk p l e R s m args below meth c Z E F cM sM C1 H1 _ cells slots lv hR2 (hset_F hF (hF a _ ha)) (hS.put z oq (hF a _ ha)) hL (okt (okt (okt hst))) h1 h2
theorem V.aastN0 {a n : Nat} {g : Nat → Option Nat} {i : Int} (hd : decode M.2.1 pc = .ok (.aastore, 1)) (ha : h a = some (kR 0 n g)) (h0 : 0 ≤ i) (h9 : i < n) (kk : V M d (pc + 1) ls st (hset h a (kR 0 n (upq g i.toNat none))) sz kc ks Q) : V M d pc ls (vN :: vI i :: vR a :: st) h sz kc ks Q := by
  intro p l e R s m args below meth c Z E F cM sM C1 H locs cells slots lv hR hF hS hL hst h1 h2
  obtain ⟨⟨hx, hb, hml, hown, hnm⟩, hSF, hFF, hrm, hret⟩ := id C1
  have hi : i32 i := okh (okt hst)
  obtain ⟨hok, hat⟩ := hR.2 a _ ha
  have hat : H[eb E + a]? = some (arrV (E.2.1 2) n (fun j => va_rf (cq E (g j)))) := hat
  refine va_WaastN (C := "RiverRoad$Sheet") hx hb hat ((hSF.1.2 2 _ rfl).1 n (fun j => va_rf (cq E (g j)))) (fun q => by cases q) (by rw [arrV_size]; exact i32_in hi h0 h9) rfl rfl hd fun H1 e8 z oq => ?_
  have hR2 : RW E (hset h a (kR 0 n (upq g i.toNat none))) sz H1 := by
    refine hR.set z oq hok ?_
    show H1[eb E + a]? = some (arrV (E.2.1 2) n (fun j => va_rf (cq E (upq g i.toNat none j))))
    rw [e8, arrV_store, i32_cl hi]
    congr 2
    funext q
    by_cases hq : q = i.toNat
    · subst hq; simp [updV, upq, va_rf, cq]
    · simp [updV, upq, hq]
  exact kk p l e R s m args below meth c Z E F cM sM C1 H1 _ cells slots lv hR2 (hset_F hF (hF a _ ha)) (hS.put z oq (hF a _ ha)) hL (okt (okt (okt hst))) h1 h2
theorem V.aast1 {a n b ci N : Nat} {C : String} {T : u_T} {ty : Nat → FieldType} {fs : List MV} {g : Nat → Option Nat} {i : Int} (hC : Cls ci C T N ty) (hca : C = "RiverRoad$Thing" ∨ (C, "RiverRoad$Thing") ∈ caL) (hd : decode M.2.1 pc = .ok (.aastore, 1)) (ha : h a = some (kR 1 n g)) (hb9 : h b = some (kO ci fs)) (h0 : 0 ≤ i) (h9 : i < n) (kk : V M d (pc + 1) ls st (hset h a (kR 1 n (upq g i.toNat (some b)))) sz kc ks Q) : V M d pc ls (vR b :: vI i :: vR a :: st) h sz kc ks Q := by
  intro p l e R s m args below meth c Z E F cM sM C1 H locs cells slots lv hR hF hS hL hst h1 h2
  obtain ⟨⟨hx, hb, hml, hown, hnm⟩, hSF, hFF, hrm, hret⟩ := id C1
  have hi : i32 i := okh (okt hst)
  obtain ⟨hok, hat⟩ := hR.2 a _ ha
  obtain ⟨hokb, r, hr1, cellV, g1, g2, g3, g4⟩ := hR.2 b _ hb9
  have hat : H[eb E + a]? = some (arrV (E.2.1 3) n (fun j => va_rf (cq E (g j)))) := hat
  obtain ⟨hcl, -, -, -⟩ := hC
  have hcls := (hSF.1.1 ci _ hcl).2
  obtain ⟨kA, comp, k1, k2, k3, -⟩ := (hSF.1.2 3 _ rfl).2
  obtain ⟨kE, hkE, -⟩ := Vm.findClass_spec k3
  obtain ⟨kC, hkC, -⟩ := hcls.2
  have hasg : s.vm.assignable (E.1.1 ci) comp = true := by
    rcases hca with e1 | hca
    · have e2 : s.vm.findClass "RiverRoad$Thing" = some (E.1.1 ci) := by rw [← e1]; exact hcls.1
      cases k3.symm.trans e2
      exact va_assign hcls
    · obtain ⟨c0, t1, f1, f2, f3⟩ := Cond.castable_spec (va_Nw.use (A := args) rfl (hSF.2.2.1 _ hca))
      cases hcls.1.symm.trans f1
      cases k3.symm.trans f2
      exact f3
  refine W.aast hx hb hat (fun q hq => by cases hq) (fun hq => by cases hq) k1 k2 rfl hkE ⟨by rw [show (0 : Int32) = Int32.ofInt 0 from rfl, i32_lt hi i32_0]; omega, by rw [arrV_size, i32_cl hi]; omega⟩ g1 (fun q hq => by rw [g3] at hq; cases hq) (by rw [g2]; exact hkC) (by rw [g2]; exact hasg) rfl rfl hd fun H1 e8 z oq => ?_
  have hR2 : RW E (hset h a (kR 1 n (upq g i.toNat (some b)))) sz H1 := by
    refine hR.set z oq hok ?_
    show H1[eb E + a]? = some (arrV (E.2.1 3) n (fun j => va_rf (cq E (upq g i.toNat (some b) j))))
    rw [e8, arrV_store, i32_cl hi]
    congr 2
    funext q
    by_cases hq : q = i.toNat
    · subst hq; simp [updV, upq, va_rf, cq]
    · simp [updV, upq, hq]
  exact kk p l e R s m args below meth c Z E F cM sM C1 H1 _ cells slots lv hR2 (hset_F hF (hF a _ ha)) (hS.put z oq (hF a _ ha)) hL (okt (okt (okt hst))) h1 h2
theorem V.aastN1 {a n : Nat} {g : Nat → Option Nat} {i : Int} (hd : decode M.2.1 pc = .ok (.aastore, 1)) (ha : h a = some (kR 1 n g)) (h0 : 0 ≤ i) (h9 : i < n) (kk : V M d (pc + 1) ls st (hset h a (kR 1 n (upq g i.toNat none))) sz kc ks Q) : V M d pc ls (vN :: vI i :: vR a :: st) h sz kc ks Q := by
  intro p l e R s m args below meth c Z E F cM sM C1 H locs cells slots lv hR hF hS hL hst h1 h2
  obtain ⟨⟨hx, hb, hml, hown, hnm⟩, hSF, hFF, hrm, hret⟩ := id C1
  have hi : i32 i := okh (okt hst)
  obtain ⟨hok, hat⟩ := hR.2 a _ ha
  have hat : H[eb E + a]? = some (arrV (E.2.1 3) n (fun j => va_rf (cq E (g j)))) := hat
  refine va_WaastN (C := "RiverRoad$Thing") hx hb hat ((hSF.1.2 3 _ rfl).1 n (fun j => va_rf (cq E (g j)))) (fun q => by cases q) (by rw [arrV_size]; exact i32_in hi h0 h9) rfl rfl hd fun H1 e8 z oq => ?_
  have hR2 : RW E (hset h a (kR 1 n (upq g i.toNat none))) sz H1 := by
    refine hR.set z oq hok ?_
    show H1[eb E + a]? = some (arrV (E.2.1 3) n (fun j => va_rf (cq E (upq g i.toNat none j))))
    rw [e8, arrV_store, i32_cl hi]
    congr 2
    funext q
    by_cases hq : q = i.toNat
    · subst hq; simp [updV, upq, va_rf, cq]
    · simp [updV, upq, hq]
  exact kk p l e R s m args below meth c Z E F cM sM C1 H1 _ cells slots lv hR2 (hset_F hF (hF a _ ha)) (hS.put z oq (hF a _ ha)) hL (okt (okt (okt hst))) h1 h2
end HR
end
section
/-! RULES: more of the heap -/
section HR2
variable {M : MD} {d pc : Nat} {ls : List (Option MV)} {st : List MV} {h : MH} {sz kc ks : Nat} {Q : QT}
theorem n32 {n : Nat} (h : n < 2147483648) : i32 (n : Int) := by unfold i32; omega
theorem n32_size {n : Nat} (h : n < 2147483648) : n.toInt32 = Int32.ofInt (n : Int) := by rw [Int32.ofInt_eq_ofNat]
theorem V.alen {a t n : Nat} {f : Nat → Int} (hd : decode M.2.1 pc = .ok (.arraylength, 1)) (ha : h a = some (kA t n f)) (kk : V M d (pc + 1) ls (vI n :: st) h sz kc ks Q) : V M d pc ls (vR a :: st) h sz kc ks Q := by
  intro p l e R s m args below meth c Z E F cM sM C1 H locs cells slots lv hR hF hS hL hst h1 h2
  obtain ⟨⟨hx, hb, hml, hown, hnm⟩, hSF, hFF, hrm, hret⟩ := id C1
  obtain ⟨hok, hat⟩ := hR.2 a _ ha
  have hat : H[eb E + a]? = some (arrV (E.2.1 0) n (fun j => .int (Int32.ofInt (f j)))) := hat
  refine W.alen (n := Int32.ofInt (n : Int)) hx hb hat ((hSF.1.2 0 _ rfl).1 n (fun j => .int (Int32.ofInt (f j)))) (by rw [arrV_size]; exact n32_size hok.1) rfl rfl hd ?_
  exact kk p l e R s m args below meth c Z E F cM sM C1 H locs cells slots lv hR hF hS hL (okp (v := vI n) (n32 hok.1) (okt hst)) h1 h2
theorem V.rlen0 {a n : Nat} {g : Nat → Option Nat} (hd : decode M.2.1 pc = .ok (.arraylength, 1)) (ha : h a = some (kR 0 n g)) (kk : V M d (pc + 1) ls (vI n :: st) h sz kc ks Q) : V M d pc ls (vR a :: st) h sz kc ks Q := by
  intro p l e R s m args below meth c Z E F cM sM C1 H locs cells slots lv hR hF hS hL hst h1 h2
  obtain ⟨⟨hx, hb, hml, hown, hnm⟩, hSF, hFF, hrm, hret⟩ := id C1
  obtain ⟨hok, hat⟩ := hR.2 a _ ha
  have hat : H[eb E + a]? = some (arrV (E.2.1 2) n (fun j => va_rf (cq E (g j)))) := hat
  refine W.alen (n := Int32.ofInt (n : Int)) hx hb hat ((hSF.1.2 2 _ rfl).1 n (fun j => va_rf (cq E (g j)))) (by rw [arrV_size]; exact n32_size hok) rfl rfl hd ?_
  exact kk p l e R s m args below meth c Z E F cM sM C1 H locs cells slots lv hR hF hS hL (okp (v := vI n) (n32 hok) (okt hst)) h1 h2
theorem V.rlen1 {a n : Nat} {g : Nat → Option Nat} (hd : decode M.2.1 pc = .ok (.arraylength, 1)) (ha : h a = some (kR 1 n g)) (kk : V M d (pc + 1) ls (vI n :: st) h sz kc ks Q) : V M d pc ls (vR a :: st) h sz kc ks Q := by
  intro p l e R s m args below meth c Z E F cM sM C1 H locs cells slots lv hR hF hS hL hst h1 h2
  obtain ⟨⟨hx, hb, hml, hown, hnm⟩, hSF, hFF, hrm, hret⟩ := id C1
  obtain ⟨hok, hat⟩ := hR.2 a _ ha
  have hat : H[eb E + a]? = some (arrV (E.2.1 3) n (fun j => va_rf (cq E (g j)))) := hat
  refine W.alen (n := Int32.ofInt (n : Int)) hx hb hat ((hSF.1.2 3 _ rfl).1 n (fun j => va_rf (cq E (g j)))) (by rw [arrV_size]; exact n32_size hok) rfl rfl hd ?_
  exact kk p l e R s m args below meth c Z E F cM sM C1 H locs cells slots lv hR hF hS hL (okp (v := vI n) (n32 hok) (okt hst)) h1 h2
theorem stV_rng : ∀ k, 1 ≤ k → k ≤ 3 → ∀ j, j < stL k → 0 ≤ stV k j ∧ stV k j < 100000 := by
  intro k a b
  match k, a, b with
  | 1, _, _ => decide +kernel
  | 2, _, _ => decide +kernel
  | 3, _, _ => decide +kernel
theorem V.gets {index : Nat} (k : Nat) (hk1 : 1 ≤ k) (hk2 : k ≤ 3) (hw : Cond.fieldLink M.1.cls index "RiverRoad" (stN k) "[I" ∈ lw_tbl) (hd : decode M.2.1 pc = .ok (.getstatic index, 3)) (kk : V M d (pc + 3) ls (vS k :: st) h sz kc ks Q) : V M d pc ls st h sz kc ks Q := by
  intro p l e R s m args below meth c Z E F cM sM C1 H locs cells slots lv hR hF hS hL hst h1 h2
  obtain ⟨⟨hx, hb, hml, hown, hnm⟩, hSF, hFF, hrm, hret⟩ := id C1
  have hZ := (hSF.2.2.2.2.2.2.2.2.2 k hk1 hk2).1
  have hS2 : va_S (fun q => eb E ≤ q) s.heap H locs := ⟨hS.1, fun q a b => hS.2.1 q a (fun z => b (hFF.2 q z)), fun q hq => hFF.2 _ (hS.2.2 q hq)⟩
  exact va_gets hx hb hZ hS2 hown (hSF.w hw rfl args) (fun _ z => z) hd (kk p l e R s m args below meth c Z E F cM sM C1 H locs cells slots lv hR hF hS hL (okp (v := vS k) trivial hst) h1 h2)
theorem V.sald {i : Int} (k : Nat) (hk1 : 1 ≤ k) (hk2 : k ≤ 3) (hd : decode M.2.1 pc = .ok (.iaload, 1)) (h0 : 0 ≤ i) (h9 : i < stL k) (kk : V M d (pc + 1) ls (vI (stV k i.toNat) :: st) h sz kc ks Q) : V M d pc ls (vI i :: vS k :: st) h sz kc ks Q := by
  intro p l e R s m args below meth c Z E F cM sM C1 H locs cells slots lv hR hF hS hL hst h1 h2
  obtain ⟨⟨hx, hb, hml, hown, hnm⟩, hSF, hFF, hrm, hret⟩ := id C1
  have hi : i32 i := okh hst
  obtain ⟨cell, a1, a2, a3, a4, a5, a6, a7⟩ := (hSF.2.2.2.2.2.2.2.2.2 k hk1 hk2).2
  have hH : H[E.2.2.2 k]? = some cell := by
    rw [hS.2.1 _ (Array.getElem?_eq_some_iff.mp a1).1 (fun z => a7 (hFF.2 _ z))]; exact a1
  refine W.iald (v := .int (Int32.ofInt (stV k i.toNat))) hx hb hH a2 a3 (fun q => i32_in hi h0 h9 (q.elim Or.inl (fun z => Or.inr (Nat.le_trans a4 z)))) (by rw [i32_cl hi]; exact a6 _ (by omega)) rfl rfl hd ?_
  exact kk p l e R s m args below meth c Z E F cM sM C1 H locs cells slots lv hR hF hS hL (okp (v := vI _) (by have := stV_rng k hk1 hk2 i.toNat (by omega); show i32 _; unfold i32; omega) (okt (okt hst))) h1 h2
theorem V.ldc {index : Nat} {v : Int32} (z : Int) (hw : Cond.constant M.1.cls index v ∈ lw_tbl) (hv : v = Int32.ofInt z) (hz : i32 z) (hd : decode M.2.1 pc = .ok (.ldc index, 2)) (kk : V M d (pc + 2) ls (vI z :: st) h sz kc ks Q) : V M d pc ls st h sz kc ks Q := by
  intro p l e R s m args below meth c Z E F cM sM C1 H locs cells slots lv hR hF hS hL hst h1 h2
  obtain ⟨⟨hx, hb, hml, hown, hnm⟩, hSF, hFF, hrm, hret⟩ := id C1
  subst hv
  exact lv_ldc hx hb hown (hSF.w hw rfl args) hd (kk p l e R s m args below meth c Z E F cM sM C1 H locs cells slots lv hR hF hS hL (okp (v := vI z) hz hst) h1 h2)
theorem V.ldc2 {index : Nat} {v : Int64} (z : Int) (hw : Cond.constantLong M.1.cls index v ∈ lw_tbl) (hv : v = Int64.ofInt z) (hz : i64 z) (hd : decode M.2.1 pc = .ok (.ldc2_w index, 3)) (kk : V M d (pc + 3) ls (vL z :: st) h sz kc ks Q) : V M d pc ls st h sz kc ks Q := by
  intro p l e R s m args below meth c Z E F cM sM C1 H locs cells slots lv hR hF hS hL hst h1 h2
  obtain ⟨⟨hx, hb, hml, hown, hnm⟩, hSF, hFF, hrm, hret⟩ := id C1
  subst hv
  exact W.ldc2 (g := F0 m pc lv (st.map (cv E))) hx hb hown (hSF.w hw rfl args) rfl hd (kk p l e R s m args below meth c Z E F cM sM C1 H locs cells slots lv hR hF hS hL (okp (v := vL z) hz hst) h1 h2)
theorem recv {E : Ev} {s : State} {ci N : Nat} {C : String} {T : u_T} {ty : Nat → FieldType} {a : Nat} {fs : List MV} {H : Heap} (hSF : SF E s) (hR : RW E h sz H) (hC : Cls ci C T N ty) (ha : h a = some (kO ci fs)) : ∃ cell : Cell, H[eb E + a]? = some cell ∧ cell.vm.isStatics = false ∧ s.vm.findClass C = some cell.cls := by
  obtain ⟨hokb, r, hr1, cellV, g1, g2, g3, g4⟩ := hR.2 a _ ha
  exact ⟨cellV, g1, by rw [g3]; rfl, by rw [g2]; exact (hSF.1.1 ci _ hC.1).2.1⟩
/-- instanceof: C may be cast to nm, is nm, may not be cast to nm -/
theorem V.instY {index ci N : Nat} {C : String} {T : u_T} {ty : Nat → FieldType} {a : Nat} {fs : List MV} (nm : String) (hC : Cls ci C T N ty) (hca : C = nm ∨ (C, nm) ∈ caL) (hw : Cond.classLink M.1.cls index nm ∈ lw_tbl) (hd : decode M.2.1 pc = .ok (.instanceof index, 3)) (ha : h a = some (kO ci fs)) (kk : V M d (pc + 3) ls (vI 1 :: st) h sz kc ks Q) : V M d pc ls (vR a :: st) h sz kc ks Q := by
  intro p l e R s m args below meth c Z E F cM sM C1 H locs cells slots lv hR hF hS hL hst h1 h2
  obtain ⟨⟨hx, hb, hml, hown, hnm⟩, hSF, hFF, hrm, hret⟩ := id C1
  have hr := recv hSF hR hC ha
  have hk := kk p l e R s m args below meth c Z E F cM sM C1 H locs cells slots lv hR hF hS hL (okp (v := vI 1) (by show i32 1; unfold i32; omega) (okt hst)) h1 h2
  rcases hca with e1 | hca
  · subst e1
    exact va_instS hx hb hown (hSF.w hw rfl args) (hSF.1.1 ci _ hC.1).2 hr hd hk
  · exact va_instY hx hb hown (hSF.w hw rfl args) (hSF.2.2.1 _ hca) hr hd hk
theorem V.instNo {index ci N : Nat} {C : String} {T : u_T} {ty : Nat → FieldType} {a : Nat} {fs : List MV} (nm : String) (hC : Cls ci C T N ty) (hca : (C, nm) ∈ ncL) (hw : Cond.classLink M.1.cls index nm ∈ lw_tbl) (hd : decode M.2.1 pc = .ok (.instanceof index, 3)) (ha : h a = some (kO ci fs)) (kk : V M d (pc + 3) ls (vI 0 :: st) h sz kc ks Q) : V M d pc ls (vR a :: st) h sz kc ks Q := by
  intro p l e R s m args below meth c Z E F cM sM C1 H locs cells slots lv hR hF hS hL hst h1 h2
  obtain ⟨⟨hx, hb, hml, hown, hnm⟩, hSF, hFF, hrm, hret⟩ := id C1
  exact va_instNo hx hb hown (hSF.w hw rfl args) (hSF.2.2.2.2.2.1 _ hca) (recv hSF hR hC ha) hd (kk p l e R s m args below meth c Z E F cM sM C1 H locs cells slots lv hR hF hS hL (okp (v := vI 0) i32_0 (okt hst)) h1 h2)
theorem V.instN {index : Nat} (hd : decode M.2.1 pc = .ok (.instanceof index, 3)) (kk : V M d (pc + 3) ls (vI 0 :: st) h sz kc ks Q) : V M d pc ls (vN :: st) h sz kc ks Q := by
  intro p l e R s m args below meth c Z E F cM sM C1 H locs cells slots lv hR hF hS hL hst h1 h2
  obtain ⟨⟨hx, hb, hml, hown, hnm⟩, hSF, hFF, hrm, hret⟩ := id C1
  exact lv_instN hx hb hd (kk p l e R s m args below meth c Z E F cM sM C1 H locs cells slots lv hR hF hS hL (okp (v := vI 0) i32_0 (okt hst)) h1 h2)
theorem V.castY {index ci N : Nat} {C : String} {T : u_T} {ty : Nat → FieldType} {a : Nat} {fs : List MV} (nm : String) (hC : Cls ci C T N ty) (hca : C = nm ∨ (C, nm) ∈ caL) (hw : Cond.classLink M.1.cls index nm ∈ lw_tbl) (hd : decode M.2.1 pc = .ok (.checkcast index, 3)) (ha : h a = some (kO ci fs)) (kk : V M d (pc + 3) ls (vR a :: st) h sz kc ks Q) : V M d pc ls (vR a :: st) h sz kc ks Q := by
  intro p l e R s m args below meth c Z E F cM sM C1 H locs cells slots lv hR hF hS hL hst h1 h2
  obtain ⟨⟨hx, hb, hml, hown, hnm⟩, hSF, hFF, hrm, hret⟩ := id C1
  have hr := recv hSF hR hC ha
  have hk := kk p l e R s m args below meth c Z E F cM sM C1 H locs cells slots lv hR hF hS hL hst h1 h2
  rcases hca with e1 | hca
  · subst e1
    exact va_castS hx hb hown (hSF.w hw rfl args) (hSF.1.1 ci _ hC.1).2 hr hd hk
  · exact va_castY hx hb hown (hSF.w hw rfl args) (hSF.2.2.1 _ hca) hr hd hk
theorem V.castA {index t n a : Nat} {f : Nat → Int} (hw : Cond.classLink M.1.cls index "[I" ∈ lw_tbl) (hd : decode M.2.1 pc = .ok (.checkcast index, 3)) (ha : h a = some (kA t n f)) (kk : V M d (pc + 3) ls (vR a :: st) h sz kc ks Q) : V M d pc ls (vR a :: st) h sz kc ks Q := by
  intro p l e R s m args below meth c Z E F cM sM C1 H locs cells slots lv hR hF hS hL hst h1 h2
  obtain ⟨⟨hx, hb, hml, hown, hnm⟩, hSF, hFF, hrm, hret⟩ := id C1
  obtain ⟨hok, hat⟩ := hR.2 a _ ha
  have hP : va_P E.1 classes [(eb E + a, .inl (E.2.1 0, n, .inl (fun j => Int32.ofInt (f j))))] H := fun j q hq => by
    match j, hq with
    | 0, hq => cases hq; exact hat
    | j + 1, hq => cases hq
  exact va_castA hx hb hown (hSF.w hw rfl args) hP 0 rfl (hSF.1.2 0 _ rfl).2 hd (kk p l e R s m args below meth c Z E F cM sM C1 H locs cells slots lv hR hF hS hL hst h1 h2)
theorem V.objInit {index : Nat} {a : Nat} (hw1 : Cond.methodLink M.1.cls index Lib.objectInit ∈ lw_tbl) (hd1 : 1 ≤ d) (hst9 : st.length ≤ 4) (hd : decode M.2.1 pc = .ok (.invokespecial index, 3)) (kk : V M d (pc + 3) ls st h sz kc ks Q) : V M d pc ls (vR a :: st) h sz kc ks Q := by
  intro p l e R s m args below meth c Z E F cM sM C1 H locs cells slots lv hR hF hS hL hst h1 h2
  obtain ⟨⟨hx, hb, hml, hown, hnm⟩, hSF, hFF, hrm, hret⟩ := id C1
  have hcat : ∀ (st : List MV), ((st.map (cv E)).map fun v => v.category).sum ≤ 2 * st.length := by
    intro st
    induction st with
    | nil => exact Nat.le_refl _
    | cons v t ih =>
      rw [List.map_cons, List.map_cons, List.sum_cons, List.length_cons]
      have := lv_cat (cv E v)
      omega
  have := hcat st
  refine W.objInit hx hb hown (hSF.w hw1 rfl args) (hSF.w (w := .instanceMethod Lib.objectInit) (by decide +kernel) rfl args) (hSF.w (w := .code Lib.objectInit ⟨#[0xb1]⟩ 1 none) (by decide +kernel) rfl args) rfl (by rw [hml]; exact hL.1) rfl hd (by omega) (by show 2 * 0 + _ + 12 ≤ _; omega) ?_
  exact kk p l e R s m args below meth c Z E F cM sM C1 H locs cells slots lv hR hF hS hL (okt hst) h1 h2
theorem V.mmax {index : Nat} {x y : Int} (hw1 : Cond.methodLink M.1.cls index Lib.Math.max.name ∈ lw_tbl) (hd1 : 1 ≤ d) (hst9 : st.length ≤ 4) (hd : decode M.2.1 pc = .ok (.invokestatic index, 3)) (kk : V M d (pc + 3) ls (vI (if x < y then y else x) :: st) h sz kc ks Q) : V M d pc ls (vI y :: vI x :: st) h sz kc ks Q := by
  intro p l e R s m args below meth c Z E F cM sM C1 H locs cells slots lv hR hF hS hL hst h1 h2
  obtain ⟨⟨hx, hb, hml, hown, hnm⟩, hSF, hFF, hrm, hret⟩ := id C1
  have hcat : ∀ (st : List MV), ((st.map (cv E)).map fun v => v.category).sum ≤ 2 * st.length := by
    intro st
    induction st with
    | nil => exact Nat.le_refl _
    | cons v t ih =>
      rw [List.map_cons, List.map_cons, List.sum_cons, List.length_cons]
      have := lv_cat (cv E v)
      omega
  have := hcat st
  have hy : i32 y := okh hst
  have hxx : i32 x := okh (okt hst)
  have hk := kk p l e R s m args below meth c Z E F cM sM C1 H locs cells slots lv hR hF hS hL (okp (v := vI _) (by show i32 _; split <;> assumption) (okt (okt hst))) h1 h2
  refine va_mmax hx hb (by rw [hml]; exact hL.1.symm) hown (hSF.w hw1 rfl args) (hSF.w (w := .static Lib.Math.max.name) (by decide +kernel) rfl args) (hSF.w (w := .initialized "java/lang/Math") (by decide +kernel) rfl args) (hSF.w (w := .code Lib.Math.max.name Lib.Math.max.code 2 (some .int)) (by decide +kernel) rfl args) (by omega) (by omega) (by omega) (by omega) hd ?_
  have e9 : (if Int32.ofInt x < Int32.ofInt y then Int32.ofInt y else Int32.ofInt x) = Int32.ofInt (if x < y then y else x) := by
    simp only [i32_lt hxx hy]; split <;> rfl
  rw [e9]
  exact hk
theorem V.mmin {index : Nat} {x y : Int} (hw1 : Cond.methodLink M.1.cls index Lib.Math.min.name ∈ lw_tbl) (hd1 : 1 ≤ d) (hst9 : st.length ≤ 4) (hd : decode M.2.1 pc = .ok (.invokestatic index, 3)) (kk : V M d (pc + 3) ls (vI (if y < x then y else x) :: st) h sz kc ks Q) : V M d pc ls (vI y :: vI x :: st) h sz kc ks Q := by
  intro p l e R s m args below meth c Z E F cM sM C1 H locs cells slots lv hR hF hS hL hst h1 h2
  obtain ⟨⟨hx, hb, hml, hown, hnm⟩, hSF, hFF, hrm, hret⟩ := id C1
  have hcat : ∀ (st : List MV), ((st.map (cv E)).map fun v => v.category).sum ≤ 2 * st.length := by
    intro st
    induction st with
    | nil => exact Nat.le_refl _
    | cons v t ih =>
      rw [List.map_cons, List.map_cons, List.sum_cons, List.length_cons]
      have := lv_cat (cv E v)
      omega
  have := hcat st
  have hy : i32 y := okh hst
  have hxx : i32 x := okh (okt hst)
  have hk := kk p l e R s m args below meth c Z E F cM sM C1 H locs cells slots lv hR hF hS hL (okp (v := vI _) (by show i32 _; split <;> assumption) (okt (okt hst))) h1 h2
  refine va_mmin hx hb (by rw [hml]; exact hL.1.symm) hown (hSF.w hw1 rfl args) (hSF.w (w := .static Lib.Math.min.name) (by decide +kernel) rfl args) (hSF.w (w := .initialized "java/lang/Math") (by decide +kernel) rfl args) (hSF.w (w := .code Lib.Math.min.name Lib.Math.min.code 2 (some .int)) (by decide +kernel) rfl args) (by omega) (by omega) (by omega) (by omega) hd ?_
  have e9 : (if Int32.ofInt y < Int32.ofInt x then Int32.ofInt y else Int32.ofInt x) = Int32.ofInt (if y < x then y else x) := by
    simp only [i32_lt hy hxx]; split <;> rfl
  rw [e9]
  exact hk
end HR2
end
section
/-! RULES: copies of arrays -/
theorem cat4 (E : Ev) (st : List MV) : ((st.map (cv E)).map fun v => v.category).sum ≤ 2 * st.length := by
  induction st with
  | nil => exact Nat.le_refl _
  | cons v t ih =>
    rw [List.map_cons, List.map_cons, List.sum_cons, List.length_cons]
    have := lv_cat (cv E v)
    omega
/-- a stretch of f, of n places from sp on, laid over g from dp on -/
def cpf (f g : Nat → Int) (sp dp n : Nat) : Nat → Int := fun k => if dp ≤ k ∧ k < dp + n then f (sp + (k - dp)) else g k
section HR3
variable {M : MD} {d pc : Nat} {ls : List (Option MV)} {st : List MV} {h : MH} {sz kc ks : Nat} {Q : QT}
theorem V.acopy {index a0 t0 n0 a t n1 : Nat} {f g : Nat → Int} {sp dp n : Int} (hw1 : Cond.methodLink M.1.cls index arraycopyName ∈ lw_tbl) (hd1 : 2 ≤ d) (hst9 : st.length ≤ 4) (hd : decode M.2.1 pc = .ok (.invokestatic index, 3)) (ha0 : h a0 = some (kA t0 n0 f)) (ha : h a = some (kA t n1 g)) (c1 : 0 ≤ sp) (c2 : 0 ≤ dp) (c3 : 0 ≤ n) (c4 : sp + n ≤ n0) (c5 : dp + n ≤ n1)
    (kk : V M d (pc + 3) ls st (hset h a (kA t n1 (cpf f g sp.toNat dp.toNat n.toNat))) sz kc ks Q) : V M d pc ls (vI n :: vI dp :: vR a :: vI sp :: vR a0 :: st) h sz kc ks Q := by
  intro p l e R s m args below meth c Z E F cM sM C1 H locs cells slots lv hR hF hS hL hst h1 h2
  obtain ⟨⟨hx, hb, hml, hown, hnm⟩, hSF, hFF, hrm, hret⟩ := id C1
  have hn : i32 n := okh hst
  have hdp : i32 dp := okh (okt hst)
  have hsp : i32 sp := okh (okt (okt (okt hst)))
  have nz : ∀ {z : Int}, i32 z → 0 ≤ z → ¬ Int32.ofInt z < 0 := fun {z} hz h0 => by rw [show (0 : Int32) = Int32.ofInt 0 from rfl, i32_lt hz i32_0]; omega
  have hc4 := cat4 E st
  have hnf : nativeFrameWords "java/lang/System" "arraycopy" 5 ≤ 40 := by decide +kernel
  obtain ⟨hok0, hat0⟩ := hR.2 a0 _ ha0
  obtain ⟨hok, hat⟩ := hR.2 a _ ha
  have hat0 : H[eb E + a0]? = some (arrV (E.2.1 0) n0 (fun j => .int (Int32.ofInt (f j)))) := hat0
  have hat : H[eb E + a]? = some (arrV (E.2.1 0) n1 (fun j => .int (Int32.ofInt (g j)))) := hat
  intro T hT X
  obtain ⟨-, k0, hk0, cm0, hkk0⟩ := (hSF.1.2 0 _ rfl).1 n0 (fun j => .int (Int32.ofInt (f j)))
  obtain ⟨-, k1, hk1, cm1, hkk1⟩ := (hSF.1.2 0 _ rfl).1 n1 (fun j => .int (Int32.ofInt (g j)))
  obtain ⟨vm', X', step⟩ := X.arraycopy hx hown (hSF.w hw1 rfl args) (hSF.w (w := .native arraycopyName) (by decide +kernel) rfl args) (hSF.w (w := .static arraycopyName) (by decide +kernel) rfl args) (hSF.w (w := .initialized "java/lang/System") (by decide +kernel) rfl args)
    (src := eb E + a0) (dst := eb E + a) (cs := arrV (E.2.1 0) n0 (fun j => .int (Int32.ofInt (f j)))) (cd := arrV (E.2.1 0) n1 (fun j => .int (Int32.ofInt (g j)))) (srcPos := Int32.ofInt sp) (destPos := Int32.ofInt dp) (n := Int32.ofInt n) (by rw [hT]; exact hat0) (by rw [hT]; exact hat)
    (fun _ q => by cases q) (fun _ q => by cases q) (fun q => by cases q) (fun q => by cases q) hk0 hk1 hkk0 hkk1 (by simp [refKind]) (nz hsp c1) (nz hdp c2) (nz hn c3)
    (by rw [i32_to hsp, i32_to hn, arrV_size]; omega)
    (by rw [i32_to hdp, i32_to hn, arrV_size]; omega)
    (fun vm₁ _ i hi => by
      rw [i32_cl hn] at hi
      have e9 : (arrV (E.2.1 0) n0 (fun j => Value.int (Int32.ofInt (f j)))).slots.getD ((Int32.ofInt sp).toNatClampNeg + i) .null = .int (Int32.ofInt (f (sp.toNat + i))) := by
        rw [i32_cl hsp, Array.getD_eq_getD_getElem?, arrV_read _ _ (by omega)]
        rfl
      refine ⟨?_, ?_⟩
      · rw [e9]; rfl
      · rw [e9]; exact trivial)
    (g := F0 m pc lv ((vI n :: vI dp :: vR a :: vI sp :: vR a0 :: st).map (cv E))) rfl (by rw [hml]; exact hL.1) (rest := st.map (cv E)) rfl (by rw [hb]; exact hd) (by omega) (by show 2 * 0 + _ + (nativeFrameWords "java/lang/System" "arraycopy" 5 + 11) ≤ _; omega)
  have e1 : copied (arrV (E.2.1 0) n0 (fun j => .int (Int32.ofInt (f j)))) (arrV (E.2.1 0) n1 (fun j => .int (Int32.ofInt (g j)))) (Int32.ofInt sp) (Int32.ofInt dp) (Int32.ofInt n) = arrV (E.2.1 0) n1 (fun j => .int (Int32.ofInt (cpf f g sp.toNat dp.toNat n.toNat j))) := by
    have q := va_copied (fun z => Value.int (Int32.ofInt z)) (E.2.1 0) (E.2.1 0) (n0 := n0) (n1 := n1) (sp := sp.toNat) (dp := dp.toNat) (n := n.toNat) f g (by omega)
    unfold copied
    rw [i32_cl hsp, i32_cl hdp, i32_cl hn]
    exact q
  rw [e1] at X' step
  generalize hCe : arrV (E.2.1 0) n1 (fun j => Value.int (Int32.ofInt (cpf f g sp.toNat dp.toNat n.toNat j))) = CC at X' step
  have hl : eb E + a < H.size := (Array.getElem?_eq_some_iff.mp hat).1
  have hheap : ((T.setVm vm').setCell (eb E + a) CC).heap = H.setIfInBounds (eb E + a) CC := by rw [← hT]; rfl
  have oq : ∀ q : Nat, q ≠ eb E + a → (H.setIfInBounds (eb E + a) CC)[q]? = H[q]? := fun q hq => by simp [Array.getElem?_setIfInBounds, Ne.symm hq]
  have hz : (H.setIfInBounds (eb E + a) CC).size = H.size := by simp
  have hR2 : RW E (hset h a (kA t n1 (cpf f g sp.toNat dp.toNat n.toNat))) sz (H.setIfInBounds (eb E + a) CC) := by
    refine hR.set hz oq ⟨hok.1, fun j hj => ⟨?_, fun q => by cases q⟩⟩ ?_
    · unfold cpf; split
      · exact (hok0.2 _ (by omega)).1
      · exact (hok.2 j hj).1
    · show (H.setIfInBounds (eb E + a) CC)[eb E + a]? = some (arrV (E.2.1 0) n1 (fun j => .int (Int32.ofInt (cpf f g sp.toNat dp.toNat n.toNat j))))
      rw [hCe]
      simp [Array.getElem?_setIfInBounds, hl]
  obtain ⟨t9, a1, b1⟩ := kk p l e R s m args below meth c Z E F cM sM C1 _ _ cells slots lv hR2 (hset_F hF (hF a _ ha)) ⟨by rw [hz]; exact hS.1, fun q q1 q2 => by
      rw [oq q (fun e9 => q2 (by rw [e9]; exact hF a _ ha))]
      exact hS.2.1 q q1 q2, fun q hq => by
      rcases List.mem_append.mp hq with q1 | q1
      · exact hS.2.2 q q1
      · obtain ⟨z, -, hz⟩ := List.mem_map.mp q1
        rw [← hz]
        exact hF a _ ha⟩ hL (okt (okt (okt (okt (okt hst))))) h1 h2 _ hheap X'
  exact ⟨t9, step t9 a1, b1⟩
theorem V.aclone {index a t0 n : Nat} {f : Nat → Int} (t : Nat) {kc2 ks2 : Nat} (hw1 : Cond.methodLink M.1.cls index ⟨"[I", "clone", "()Ljava/lang/Object;"⟩ ∈ lw_tbl) (hd1 : 1 ≤ d) (hst9 : st.length ≤ 4) (hd : decode M.2.1 pc = .ok (.invokevirtual index, 3)) (ha : h a = some (kA t0 n f)) (g1 : kc2 + 1 ≤ kc) (g2 : ks2 + n ≤ ks)
    (kk : V M d (pc + 3) ls (vR sz :: st) (hset h sz (kA t n f)) (sz + 1) kc2 ks2 Q) : V M d pc ls (vR a :: st) h sz kc ks Q := by
  intro p l e R s m args below meth c Z E F cM sM C1 H locs cells slots lv hR hF hS hL hst h1 h2
  obtain ⟨⟨hx, hb, hml, hown, hnm⟩, hSF, hFF, hrm, hret⟩ := id C1
  have := cat4 E st
  obtain ⟨hok, hat⟩ := hR.2 a _ ha
  have hat : H[eb E + a]? = some (arrV (E.2.1 0) n (fun j => .int (Int32.ofInt (f j)))) := hat
  have hnmA : s.vm.findClass "[I" = some (E.2.1 0) := (hSF.1.2 0 _ rfl).2
  obtain ⟨c0, t1, f1, f2, f3⟩ := Cond.castable_spec (va_Nw.use (A := args) rfl (hSF.2.2.1 ("[I", "java/lang/Cloneable") (by decide +kernel)))
  cases hnmA.symm.trans f1
  have hsz : H.size = eb E + sz := hR.1
  intro T hT X
  obtain ⟨-, kA', hkA', comp, hkind⟩ := State.isArrayOf_alike X.warmed.alike ((hSF.1.2 0 _ rfl).1 0 (fun _ => .null))
  obtain ⟨-, kS, hkS, compS, hkindS⟩ := (hSF.1.2 0 _ rfl).1 0 (fun _ => .null)
  obtain ⟨vm', X', stp⟩ := X.cloneArray hx hown (hSF.w hw1 rfl args) (hSF.w (w := .sameMethod "[I" "java/lang/Object" "clone" "()Ljava/lang/Object;") (by decide +kernel) rfl args) (hSF.w (w := .native ⟨"java/lang/Object", "clone", "()Ljava/lang/Object;"⟩) (by decide +kernel) rfl args) (hSF.w (w := .instanceMethod ⟨"java/lang/Object", "clone", "()Ljava/lang/Object;"⟩) (by decide +kernel) rfl args) (hSF.w (w := .selects "[I" ⟨"[I", "clone", "()Ljava/lang/Object;"⟩ ⟨"java/lang/Object", "clone", "()Ljava/lang/Object;"⟩) (by decide +kernel) rfl args)
    (a := eb E + a) (cell := arrV (E.2.1 0) n (fun j => .int (Int32.ofInt (f j)))) (by rw [hT]; exact hat) (fun k q => by cases q) (fun q => by cases q) hnmA f2 f3
    (fun i v hv => by
      have hk' : T.vm.classes[E.2.1 0]? = some kA' := hkA'
      have hlt : i < n := by
        have := (Array.getElem?_eq_some_iff.mp hv).1
        rw [arrV_size] at this; exact this
      rw [arrV_read _ _ hlt] at hv
      cases hv
      simp [State.fitsSlot, State.slotType?, arrV, hk', hkind, fits])
    (g := F0 m pc lv ((vR a :: st).map (cv E))) rfl (by rw [hml]; exact hL.1) (rest := st.map (cv E)) rfl (by rw [hb]; exact hd) (by omega) (by show 2 * 0 + _ + 14 ≤ _; omega) (by omega) (by rw [arrV_size]; omega) (hloader := Vm.clonesLoader_of_array hkS hkindS)
  have hce : ({ cls := (arrV (E.2.1 0) n (fun j => Value.int (Int32.ofInt (f j)))).cls, slots := (arrV (E.2.1 0) n (fun j => Value.int (Int32.ofInt (f j)))).slots } : Cell) = arrV (E.2.1 0) n (fun j => Value.int (Int32.ofInt (f j))) := rfl
  rw [hce, arrV_size] at X'
  rw [hce, hT] at stp
  generalize hCe : arrV (E.2.1 0) n (fun j => Value.int (Int32.ofInt (f j))) = CC at X' stp
  generalize hH1 : H.push CC = H1
  have z1 : H1.size = H.size + 1 := by rw [← hH1, Array.size_push]
  have e1 : H1[H.size]? = some CC := by rw [← hH1, Array.getElem?_push_size]
  have o1 : ∀ q : Nat, q < H.size → H1[q]? = H[q]? := fun q hq => by rw [← hH1, Array.getElem?_push, if_neg (Nat.ne_of_lt hq)]
  have hR2 : RW E (hset h sz (kA t n f)) (sz + 1) H1 := by
    refine hR.push z1 o1 ⟨hok.1, fun j hj => hok.2 j hj⟩ ?_
    rw [← hsz]
    show H1[H.size]? = some (arrV (E.2.1 0) n (fun j => .int (Int32.ofInt (f j))))
    rw [hCe]; exact e1
  obtain ⟨t9, a1, b1⟩ := kk p l e R s m args below meth c Z E F cM sM C1 H1 locs (cells + 1) (slots + n) lv hR2 (hset_F hF (by rw [← hsz]; exact hFF.1 _ hS.1)) (hS.push1 z1 o1) hL (okp (v := vR sz) trivial (okt hst)) (by omega) (by omega) ((T.setVm vm').pushCell CC) (by rw [← hH1, ← hT]; rfl) X'
  refine ⟨t9, stp t9 ?_, b1⟩
  rw [hsz]
  exact a1
end HR3
end
section
/-! RULES: calls -/
/-- a method that may be called, with n parameters -/
def MOK (M2 : MD) (n : Nat) : Prop := Cond.code M2.1 M2.2.1 M2.2.2.1 M2.2.2.2 ∈ lw_tbl ∧ Cond.initialized M2.1.cls ∈ lw_tbl ∧ (M2.1.cls ≠ "java/lang/invoke/MethodHandle" ∧ M2.1.cls ≠ "java/lang/invoke/VarHandle") ∧ (parseMethodDescriptor M2.1.desc).map (fun q => q.parameters.length) = some n ∧ M2.2.2.1 ≤ 21
theorem MOK.len {M2 : MD} {n : Nat} (h : MOK M2 n) : ∀ sig, parseMethodDescriptor M2.1.desc = some sig → n = sig.parameters.length := fun sig q => by
  have h2 := h.2.2.2.1
  rw [q] at h2
  exact (Option.some.inj h2).symm
def hov (h2 h hc : MH) (sz : Nat) : MH := fun a => match h2 a with
  | some c => some c
  | none => if hc a = none ∧ a < sz then h a else none
theorem hov_self (h2 h : MH) (sz : Nat) : hov h2 h h sz = h2 := by
  funext a
  unfold hov
  cases e : h2 a with
  | some c => rfl
  | none =>
    simp only
    by_cases q : h a = none
    · rw [q]; split <;> rfl
    · rw [if_neg (fun z => q z.1)]
theorem cPre_blind (E : Ev) (as : List MV) (h : MH) (sz : Nat) : FrameBlind (cPre E as h sz) := by
  intro a U g mk q
  obtain ⟨q1, q2, q3, q4⟩ := q
  exact ⟨q1, q2, q3.warm (U := U.calling g mk a) (State.WarmedH.refl U) q3.base (fun _ _ _ => rfl), q4⟩
section CALL
variable {M : MD} {d pc : Nat} {ls : List (Option MV)} {st : List MV} {h : MH} {sz kc ks : Nat} {Q : QT}
/-- what a call gives, in any state of the caller's walk -/
def RunC (M : MD) (d pc : Nat) (st0 st : List MV) (h : MH) (sz : Nat) (hc : MH) (mc ms : Nat) (Qc : QT) : Prop :=
  ∀ (p : Program) (l : Launch) (e : Env) (R : Room) (s : State) (m : MethodId) (args : Array Value) (below : List Frame) (meth : Method) (c : Code) (E : Ev) (F : Nat → Prop) (H : Heap) (locs : List Loc) (cells slots : Nat) (lv : Array Slot),
    (p.tables.exec = Jvm.exec ∧ c.code = M.2.1 ∧ c.maxLocals = M.2.2.1 ∧ s.vm.findClass M.1.cls = some m.cls) → SF E s → ((∀ q, s.heap.size ≤ q → F q) ∧ (∀ q, F q → eb E ≤ q)) → (d ≤ R.frames ∧ 40 * d ≤ R.locals) → RW E h sz H → RW E hc sz H → va_S F s.heap H locs → lv.size = M.2.2.1 → (∀ v ∈ st0, okV v) → cells + mc ≤ R.cells → slots + ms ≤ R.slots →
    ∃ a, va_Run p l e R s m args below meth c H locs cells slots mc ms (F0 m pc lv (st0.map (cv E))) (st.map (cv E)) (cPost E hc sz Qc a) (FR E hc sz)
theorem V.call {st0 : List MV} {hc : MH} {mc ms kc2 ks2 : Nat} {Qc : QT} (hrun : RunC M d pc st0 st h sz hc mc ms Qc) (hsub : ∀ a c, hc a = some c → h a = some c) (hst0 : (∀ v ∈ st0, okV v) → ∀ v ∈ st, okV v) (g1 : kc2 + mc ≤ kc) (g2 : ks2 + ms ≤ ks)
    (kk : ∀ (r : Option MV) (h2 : MH) (sz2 : Nat), Qc r h2 sz2 → V M d (pc + 3) ls (r.toList ++ st) (hov h2 h hc sz) sz2 kc2 ks2 Q) : V M d pc ls st0 h sz kc ks Q := by
  intro p l e R s m args below meth c Z E F cM sM C1 H locs cells slots lv hR hF hS hL hst h1 h2
  obtain ⟨⟨hx, hb, hml, hown, hnm⟩, hSF, hFF, hrm, hret⟩ := id C1
  have hRc : RW E hc sz H := ⟨hR.1, fun a c ha => hR.2 a c (hsub a c ha)⟩
  obtain ⟨a9, hr⟩ := hrun p l e R s m args below meth c E F H locs cells slots lv ⟨hx, hb, hml, hown⟩ hSF hFF ⟨hrm.1, hrm.2.1⟩ hR hRc hS hL.1 hst (by omega) (by omega)
  intro T hT X
  obtain ⟨v, st₀, t, T', L, h0, X', hLf, e1, e2, ⟨r, h3, sz3, hv, hokr, hq, hR3, hF3, hz3, hk3⟩, stp⟩ := hr T hT X
  have hve : v = r.map (cv E) := Outcome.returned.inj hv
  subst hve
  rw [h0] at hz3 hk3
  have hFRF : ∀ q, FR E hc sz q → F q := by
    intro q hq
    rcases hq with ⟨a, c, ha, rfl⟩ | hq
    · exact hF a c (hsub a c ha)
    · exact hFF.1 q (Nat.le_trans hS.1 (by rw [hR.1]; exact hq))
  have hkeep : ∀ a, hc a = none → a < sz → t.heap[eb E + a]? = H[eb E + a]? := by
    intro a n1 n2
    refine hk3 (eb E + a) (by rw [hR.1]; omega) ?_
    rintro (⟨b, c, hb1, hb2⟩ | q)
    · have : b = a := by omega
      subst this
      rw [n1] at hb1; cases hb1
    · omega
  have hR9 : RW E (hov h3 h hc sz) sz3 T'.heap := by
    rw [e1]
    refine ⟨hR3.1, fun a c ha => ?_⟩
    unfold hov at ha
    cases q3 : h3 a with
    | some c3 => rw [q3] at ha; cases ha; exact hR3.2 a c q3
    | none =>
      rw [q3] at ha
      simp only at ha
      split at ha
      · rename_i qq
        have := hR.2 a c ha
        exact ⟨this.1, this.2.kept (hkeep a qq.1 qq.2)⟩
      · cases ha
  have hF9 : ∀ a c, hov h3 h hc sz a = some c → F (eb E + a) := by
    intro a c ha
    unfold hov at ha
    cases q3 : h3 a with
    | some c3 => exact hFRF _ (hF3 a c3 q3)
    | none =>
      rw [q3] at ha
      simp only at ha
      split at ha
      · exact hF a c ha
      · cases ha
  have hS9 : va_S F s.heap T'.heap (locs ++ L) := by
    rw [e1]
    refine ⟨Nat.le_trans hS.1 hz3, fun q q1 q2 => ?_, fun q hq => ?_⟩
    · rw [hk3 q (Nat.lt_of_lt_of_le q1 hS.1) (fun z => q2 (hFRF q z))]
      exact hS.2.1 q q1 q2
    · rcases List.mem_append.mp hq with q1 | q1
      · exact hS.2.2 q q1
      · exact hFRF _ (hLf q q1)
  have hok9 : ∀ v ∈ r.toList ++ st, okV v := by
    intro w hw
    rcases List.mem_append.mp hw with q | q
    · exact hokr w (by cases r with
        | none => cases q
        | some r' => rw [List.mem_singleton.mp q])
    · exact hst0 hst w q
  obtain ⟨t2, a1, b1⟩ := kk r h3 sz3 hq p l e R s m args below meth c Z E F cM sM C1 T'.heap (locs ++ L) (cells + mc) (slots + ms) lv hR9 hF9 hS9 hL hok9 (by omega) (by omega) T' rfl X'
  refine ⟨t2, stp t2 ?_, b1⟩
  have e9 : (r.toList ++ st).map (cv E) = (r.map (cv E)).toList ++ st.map (cv E) := by cases r <;> rfl
  rw [e9] at a1
  exact a1
theorem pre_of {E : Ev} {F : Nat → Prop} {s U : State} {H : Heap} {locs : List Loc} {as : List MV} {hc : MH} (hSF : SF E s) (hFF : (∀ q, s.heap.size ≤ q → F q) ∧ (∀ q, F q → eb E ≤ q)) (hR : RW E hc sz H) (hS : va_S F s.heap H locs) (hok : ∀ v ∈ as, okV v) (hU : U.heap = H) (hW : s.WarmedH U.vm) : cPre E as hc sz (as.map (cv E)).toArray U := by
  refine ⟨rfl, hok, hSF.warm hW (by rw [hU, hR.1]; omega) (fun q q1 q2 => by rw [hU]; exact hS.2.1 q q1 (fun z => q2 (hFF.2 q z))), by rw [hU]; exact hR⟩
theorem code_good {E : Ev} {s : State} {M2 : MD} {n : Nat} (hSF : SF E s) (h : MOK M2 n) : ∀ w ∈ [Cond.code M2.1 M2.2.1 M2.2.2.1 M2.2.2.2], ∀ (a' : Array Value) (U : State), s.WarmedH U.vm → w.before a' U = true := by
  intro w hw a' U hW
  rw [List.mem_singleton.mp hw]
  exact word_at hW (Or.inl rfl) (hSF.w h.1 rfl #[])
theorem lroom {m : MethodId} {pc : Nat} {lv : Array Slot} {E : Ev} {st0 : List MV} (st : List MV) (h : st.length ≤ 4) : 2 * (F0 m pc lv (st0.map (cv E))).monitorRoom + ((st.map (cv E)).map fun v => v.category).sum ≤ 8 := by
  have := cat4 E st
  exact lv_room (by omega)
/-- a static method -/
theorem run_S {M2 : MD} {d2 mc ms n index : Nat} {as : List MV} {hc : MH} {Qc : QT} (hC : Ct M2 d2 mc ms as hc sz Qc) (ho : MOK M2 n) (hw1 : Cond.methodLink M.1.cls index M2.1 ∈ lw_tbl) (hw2 : Cond.static M2.1 ∈ lw_tbl) (hn : as.length = n) (hdd : d2 + 1 ≤ d) (h4 : st.length ≤ 4) (hd : decode M.2.1 pc = .ok (.invokestatic index, 3)) : RunC M d pc (as.reverse ++ st) st h sz hc mc ms Qc := by
  intro p l e R s m args below meth c E F H locs cells slots lv hB hSF hFF hrm hR hRc hS hlv hok hc1 hc2
  obtain ⟨hx, hb, hml, hown⟩ := hB
  have hoka : ∀ v ∈ as, okV v := fun v hv => hok v (List.mem_append_left _ (List.mem_reverse.mpr hv))
  have ho5 := ho.2.2.2.2
  refine ⟨(as.map (cv E)).toArray, va_runS (Ts := gT) (As := as.map (cv E)) (rest := st.map (cv E)) (n := n) (bytes := M2.2.1) (maxL := M2.2.2.1) (ret := M2.2.2.2) ⟨hx, hb, hml, hown, hSF.hts args⟩ (hC l E) ⟨⟨rfl, rfl, ?_, ?_, code_good hSF ho, List.mem_singleton.mpr rfl, hSF.w ho.1 rfl args, hSF.w ho.2.1 rfl args, ho.2.2.1, ho.len, hSF.w hw1 rfl args⟩, hSF.w hw2 rfl args⟩ ⟨cPre_blind E as hc sz, fun U hU hW => pre_of hSF hFF hRc hS hoka hU hW⟩ rfl (by rw [List.length_map]; exact hn) hlv (by show (as.reverse ++ st).map (cv E) = _; rw [List.map_append, List.map_reverse]) (lroom st h4) hd ⟨hc1, hc2⟩⟩
  · show d2 + 1 ≤ R.frames; omega
  · show 8 + (M2.2.2.1 + 11) + 40 * d2 ≤ R.locals; omega
/-- a method of the class itself, by its name's class -/
theorem run_V {M2 : MD} {d2 mc ms n index b ci N : Nat} {T : u_T} {ty : Nat → FieldType} {fs : List MV} {as : List MV} {hc : MH} {Qc : QT} (hC : Ct M2 d2 mc ms (vR b :: as) hc sz Qc) (ho : MOK M2 n) (hcl : Cls ci M2.1.cls T N ty) (hbo : h b = some (kO ci fs)) (hw1 : Cond.methodLink M.1.cls index M2.1 ∈ lw_tbl) (hw2 : Cond.instanceMethod M2.1 ∈ lw_tbl) (hw3 : Cond.selects M2.1.cls M2.1 M2.1 ∈ lw_tbl) (hn : as.length = n) (hdd : d2 + 1 ≤ d) (h4 : st.length ≤ 4) (hd : decode M.2.1 pc = .ok (.invokevirtual index, 3)) : RunC M d pc (as.reverse ++ vR b :: st) st h sz hc mc ms Qc := by
  intro p l e R s m args below meth c E F H locs cells slots lv hB hSF hFF hrm hR hRc hS hlv hok hc1 hc2
  obtain ⟨hx, hb, hml, hown⟩ := hB
  have hoka : ∀ v ∈ vR b :: as, okV v := fun v hv => by
    rcases List.mem_cons.mp hv with rfl | hv
    · trivial
    · exact hok v (List.mem_append_left _ (List.mem_reverse.mpr hv))
  have ho5 := ho.2.2.2.2
  refine ⟨((vR b :: as).map (cv E)).toArray, va_runV (Ts := gT) (C := M2.1.cls) (b := eb E + b) (As := as.map (cv E)) (rest := st.map (cv E)) (n := n) (bytes := M2.2.1) (maxL := M2.2.2.1) (ret := M2.2.2.2) ⟨hx, hb, hml, hown, hSF.hts args⟩ (hC l E) ⟨⟨rfl, rfl, ?_, ?_, code_good hSF ho, List.mem_singleton.mpr rfl, hSF.w ho.1 rfl args, hSF.w ho.2.1 rfl args, ho.2.2.1, ho.len, hSF.w hw1 rfl args⟩, hSF.w hw2 rfl args, hSF.w hw3 rfl args⟩ ⟨cPre_blind E (vR b :: as) hc sz, recv hSF hR hcl hbo, fun U hU hW => pre_of hSF hFF hRc hS hoka hU hW⟩ rfl (by rw [List.length_map]; exact hn) hlv (by show (as.reverse ++ vR b :: st).map (cv E) = _; rw [List.map_append, List.map_reverse]; rfl) (lroom st h4) hd ⟨hc1, hc2⟩⟩
  · show d2 + 1 ≤ R.frames; omega
  · show 8 + (M2.2.2.1 + 11) + 40 * d2 ≤ R.locals; omega
/-- a constructor -/
theorem run_I {M2 : MD} {d2 mc ms n index b : Nat} {as : List MV} {hc : MH} {Qc : QT} (hC : Ct M2 d2 mc ms (vR b :: as) hc sz Qc) (ho : MOK M2 n) (hr : M2.2.2.2 = none) (hi : M2.1.name = "<init>") (hw1 : Cond.methodLink M.1.cls index M2.1 ∈ lw_tbl) (hw2 : Cond.instanceMethod M2.1 ∈ lw_tbl) (hn : as.length = n) (hdd : d2 + 1 ≤ d) (h4 : st.length ≤ 4) (hd : decode M.2.1 pc = .ok (.invokespecial index, 3)) : RunC M d pc (as.reverse ++ vR b :: st) st h sz hc mc ms Qc := by
  intro p l e R s m args below meth c E F H locs cells slots lv hB hSF hFF hrm hR hRc hS hlv hok hc1 hc2
  obtain ⟨hx, hb, hml, hown⟩ := hB
  have hoka : ∀ v ∈ vR b :: as, okV v := fun v hv => by
    rcases List.mem_cons.mp hv with rfl | hv
    · trivial
    · exact hok v (List.mem_append_left _ (List.mem_reverse.mpr hv))
  have ho5 := ho.2.2.2.2
  have hcode := ho.1
  have hgood := code_good hSF ho
  have hM := hC l E
  rw [hr] at hcode hM hgood
  refine ⟨((vR b :: as).map (cv E)).toArray, va_runI (Ts := gT) (b := eb E + b) (As := as.map (cv E)) (rest := st.map (cv E)) (n := n) (bytes := M2.2.1) (maxL := M2.2.2.1) ⟨hx, hb, hml, hown, hSF.hts args⟩ hM ⟨⟨rfl, rfl, ?_, ?_, hgood, List.mem_singleton.mpr rfl, hSF.w hcode rfl args, hSF.w ho.2.1 rfl args, ho.2.2.1, ho.len, hSF.w hw1 rfl args⟩, hi, hSF.w hw2 rfl args⟩ ⟨cPre_blind E (vR b :: as) hc sz, fun U hU hW => pre_of hSF hFF hRc hS hoka hU hW⟩ rfl (by rw [List.length_map]; exact hn) hlv (by show (as.reverse ++ vR b :: st).map (cv E) = _; rw [List.map_append, List.map_reverse]; rfl) (lroom st h4) hd ⟨hc1, hc2⟩⟩
  · show d2 + 1 ≤ R.frames; omega
  · show 8 + (M2.2.2.1 + 11) + 40 * d2 ≤ R.locals; omega
/-- a nest mate's constructor -/
theorem run_IN {M2 : MD} {d2 mc ms b : Nat} {hc : MH} {Qc : QT} (hC : Ct M2 d2 mc ms [vR b] hc sz Qc) (ho : MOK M2 0) (hr : M2.2.2.2 = none) (hm : M2.1 = ⟨"RiverRoad$Trace", "<init>", "()V"⟩) (how : M.1.cls = "RiverRoad") (hdd : d2 + 1 ≤ d) (h4 : st.length ≤ 4) (hd : decode M.2.1 pc = .ok (.invokespecial 23, 3)) : RunC M d pc (vR b :: st) st h sz hc mc ms Qc := by
  intro p l e R s m args below meth c E F H locs cells slots lv hB hSF hFF hrm hR hRc hS hlv hok hc1 hc2
  obtain ⟨hx, hb, hml, hown⟩ := hB
  have hoka : ∀ v ∈ [vR b], okV v := fun v hv => by rw [List.mem_singleton.mp hv]; trivial
  have ho5 := ho.2.2.2.2
  have hcode := ho.1
  have hgood := code_good hSF ho
  have hM := hC l E
  rw [hr] at hcode hM hgood
  rw [how] at hown
  have hnw : (Cond.methodLinkNest "RiverRoad" 23 M2.1 "RiverRoad").before args s = true := by rw [hm]; exact va_Nw.use rfl hSF.2.2.2.2.1
  refine ⟨([vR b].map (cv E)).toArray, va_runIN (own := "RiverRoad") (host := "RiverRoad") (Ts := gT) (b := eb E + b) (As := []) (rest := st.map (cv E)) (n := 0) (bytes := M2.2.1) (maxL := M2.2.2.1) ⟨hx, hb, hml, hown, hSF.hts args⟩ hM ⟨⟨⟨rfl, rfl, ?_, ?_, hgood, List.mem_singleton.mpr rfl⟩, hSF.w hcode rfl args, hSF.w ho.2.1 rfl args, ho.2.2.1, ho.len, hnw⟩, by rw [hm], hSF.w (w := .instanceMethod M2.1) (by rw [hm]; decide +kernel) rfl args⟩ ⟨cPre_blind E [vR b] hc sz, fun U hU hW => pre_of hSF hFF hRc hS hoka hU hW⟩ rfl rfl hlv rfl (lroom st h4) hd ⟨hc1, hc2⟩⟩
  · show d2 + 1 ≤ R.frames; omega
  · show 8 + (M2.2.2.1 + 11) + 40 * d2 ≤ R.locals; omega
/-- a method that is named of one class (x), declared by 'owner', and taken of the receiver's (C) -/
theorem run_U {M2 : MD} {d2 mc ms n index b ci N : Nat} {C owner : String} {T : u_T} {ty : Nat → FieldType} {fs : List MV} {as : List MV} {hc : MH} {Qc : QT} (x : MethodName) (hC : Ct M2 d2 mc ms (vR b :: as) hc sz Qc) (ho : MOK M2 n) (hcl : Cls ci C T N ty) (hbo : h b = some (kO ci fs)) (hxn : (owner ≠ "java/lang/invoke/MethodHandle" ∧ owner ≠ "java/lang/invoke/VarHandle") ∧ (parseMethodDescriptor x.desc).map (fun q => q.parameters.length) = some n) (hw1 : Cond.methodLink M.1.cls index x ∈ lw_tbl) (hw4 : Cond.sameMethod x.cls owner x.name x.desc ∈ lw_tbl) (hw5 : (⟨owner, x.name, x.desc⟩ : MethodName) ∈ deL) (hw2 : Cond.instanceMethod M2.1 ∈ lw_tbl) (hw3 : Cond.selects C x M2.1 ∈ lw_tbl) (hn : as.length = n) (hdd : d2 + 1 ≤ d) (h4 : st.length ≤ 4) (hd : decode M.2.1 pc = .ok (.invokevirtual index, 3)) : RunC M d pc (as.reverse ++ vR b :: st) st h sz hc mc ms Qc := by
  intro p l e R s m args below meth c E F H locs cells slots lv hB hSF hFF hrm hR hRc hS hlv hok hc1 hc2
  obtain ⟨hx, hb, hml, hown⟩ := hB
  have hoka : ∀ v ∈ vR b :: as, okV v := fun v hv => by
    rcases List.mem_cons.mp hv with rfl | hv
    · trivial
    · exact hok v (List.mem_append_left _ (List.mem_reverse.mpr hv))
  have ho5 := ho.2.2.2.2
  have hlen : ∀ sig, parseMethodDescriptor x.desc = some sig → n = sig.parameters.length := fun sig q => by
    have h2 := hxn.2
    rw [q] at h2
    exact (Option.some.inj h2).symm
  refine ⟨((vR b :: as).map (cv E)).toArray, va_runU (Ts := gT) (C := C) (owner := owner) (x := x) (b := eb E + b) (As := as.map (cv E)) (rest := st.map (cv E)) (n := n) (bytes := M2.2.1) (maxL := M2.2.2.1) (ret := M2.2.2.2) ⟨hx, hb, hml, hown, hSF.hts args⟩ (hC l E) ⟨⟨rfl, rfl, ?_, ?_, code_good hSF ho, List.mem_singleton.mpr rfl⟩, hSF.w ho.1 rfl args, hSF.w ho.2.1 rfl args, hxn.1, hlen, hSF.w hw1 rfl args, hSF.w hw4 rfl args, va_Decl.abs (hSF.2.2.2.1 _ hw5), hSF.w hw3 rfl args, hSF.w hw2 rfl args⟩ ⟨cPre_blind E (vR b :: as) hc sz, recv hSF hR hcl hbo, fun U hU hW => pre_of hSF hFF hRc hS hoka hU hW⟩ rfl (by rw [List.length_map]; exact hn) hlv (by show (as.reverse ++ vR b :: st).map (cv E) = _; rw [List.map_append, List.map_reverse]; rfl) (lroom st h4) hd ⟨hc1, hc2⟩⟩
  · show d2 + 1 ≤ R.frames; omega
  · show 8 + (M2.2.2.1 + 11) + 40 * d2 ≤ R.locals; omega
end CALL
end
section
/-! RULES: super.m(..), of the superclass or of the one above it -/
theorem sub_of {vm : Vm} {a b : ClassId} {k : Class} (h1 : vm.classes[a]? = some k) (h2 : a = b ∨ k.super = some b) : vm.isSubclass a b = true := by
  have hpos : 0 < vm.classes.size := Nat.lt_of_le_of_lt (Nat.zero_le _) (Array.getElem?_eq_some_iff.mp h1).1
  obtain ⟨n, hn⟩ : ∃ n, vm.classes.size = n + 1 := ⟨vm.classes.size - 1, by omega⟩
  unfold Vm.isSubclass
  rw [hn]
  rcases h2 with rfl | h2
  · simp [Vm.isSubclassAux]
  · simp [Vm.isSubclassAux, h1, h2]
section SUP
variable {M : MD} {d pc : Nat} {ls : List (Option MV)} {st : List MV} {h : MH} {sz kc ks : Nat} {Q : QT}
theorem run_SU {M2 : MD} {d2 mc ms n index b ci N : Nat} {C owner : String} {T : u_T} {ty : Nat → FieldType} {fs : List MV} {as : List MV} {hc : MH} {Qc : QT} (x : MethodName) (hC : Ct M2 d2 mc ms (vR b :: as) hc sz Qc) (ho : MOK M2 n) (hcl : Cls ci C T N ty) (hbo : h b = some (kO ci fs)) (hm2 : M2.1 = ⟨owner, x.name, x.desc⟩) (hno : x.name ≠ "<init>") (hw1 : Cond.methodLink M.1.cls index x ∈ lw_tbl) (hw4 : Cond.sameMethod x.cls owner x.name x.desc ∈ lw_tbl) (hw5 : Cond.superclass M.1.cls x.cls ∈ lw_tbl) (hw6 : x.cls = owner ∨ Cond.superclass x.cls owner ∈ lw_tbl) (hw2 : Cond.instanceMethod M2.1 ∈ lw_tbl) (hn : as.length = n) (hdd : d2 + 1 ≤ d) (h4 : st.length ≤ 4) (hd : decode M.2.1 pc = .ok (.invokespecial index, 3)) : RunC M d pc (as.reverse ++ vR b :: st) st h sz hc mc ms Qc := by
  intro p l e R s m args below meth c E F H locs cells slots lv hB hSF hFF hrm hR hRc hS hlv hok hc1 hc2
  obtain ⟨hx, hb, hml, hown⟩ := hB
  have hoka : ∀ v ∈ vR b :: as, okV v := fun v hv => by
    rcases List.mem_cons.mp hv with rfl | hv
    · trivial
    · exact hok v (List.mem_append_left _ (List.mem_reverse.mpr hv))
  have ho5 := ho.2.2.2.2
  refine ⟨((vR b :: as).map (cv E)).toArray, ?_⟩
  have hini : (Cond.initialized M2.1.cls).before args s = true := hSF.w ho.2.1 rfl args
  have hK : Back l R p e below s args M2.1 3 8 (PreOf R mc ms (cPre E (vR b :: as) hc sz)) (PostOf (cPost E hc sz Qc) mc ms (FR E hc sz)) := back_of (bytes := M2.2.1) (maxL := M2.2.2.1) (ret := M2.2.2.2) (hC l E) (cPre_blind E (vR b :: as) hc sz) rfl rfl (by show d2 + 1 ≤ R.frames; omega) (by show 8 + (M2.2.2.1 + 11) + 40 * d2 ≤ R.locals; omega) (code_good hSF ho) (List.mem_singleton.mpr rfl) (fun a' U hW => word_at hW (Or.inl rfl) hini)
  obtain ⟨mk, methM, hnamed, hmethM, hstM, habM⟩ := Cond.instanceMethod_spec (hSF.w hw2 rfl args)
  obtain ⟨methM', cM, hmethM', -, -, -, -, -, -, hsigM⟩ := Cond.code_spec hnamed (hSF.w ho.1 rfl args)
  cases hmethM.symm.trans hmethM'
  obtain ⟨ps, dk, kp, hps, hdk, hkp, hsuper, -, -, hnid⟩ := Cond.superclass_spec hown (hSF.w hw5 rfl args)
  have hnm2 : s.methodNamed? ⟨owner, x.name, x.desc⟩ = some mk := by rw [← hm2]; exact hnamed
  have hcown : s.vm.findClass owner = some mk.cls := findClass_of_methodNamed hnm2
  have hsub : s.vm.isSubclass ps mk.cls = true := by
    refine sub_of hkp ?_
    rcases hw6 with e6 | hw6
    · left
      rw [← e6] at hcown
      exact Option.some.inj (hps.symm.trans hcown)
    · right
      obtain ⟨ps2, dk2, kp2, hps2, hdk2, hkp2, hsuper2, -⟩ := Cond.superclass_spec hps (hSF.w hw6 rfl args)
      cases hkp.symm.trans hdk2
      rw [hsuper2]
      exact congrArg some (Option.some.inj (hps2.symm.trans hcown))
  obtain ⟨cellB, hcB, hoB, hclB⟩ := recv hSF hR hcl hbo
  obtain ⟨kB, hkB, -⟩ := (hSF.1.1 ci _ hcl.1).2.2
  have hkB2 : s.vm.classes[cellB.cls]? = some kB := by
    have e9 : E.1.1 ci = cellB.cls := Option.some.inj ((hSF.1.1 ci _ hcl.1).2.1.symm.trans hclB)
    rw [← e9]; exact hkB
  have hlen : (as.map (cv E)).length = methM.sig.parameters.length := by
    rw [List.length_map, hn]
    exact ho.len _ hsigM
  intro T9 hT X
  obtain ⟨vm₁, X₁, hstep₁⟩ := X.invokespecialUp hx hown (hSF.w hw1 rfl args) (hSF.w hw4 rfl args) hnm2 hmethM hstM habM hno hdk hnid hps hsuper hsub (a := eb E + b) (cell := cellB) (by rw [hT]; exact hcB)
    (fun z q => by rw [q] at hoB; cases hoB) hkB2 (g := F0 m pc lv ((as.reverse ++ vR b :: st).map (cv E))) rfl (argsL := as.map (cv E)) (rest := st.map (cv E)) hlen (by show (as.reverse ++ vR b :: st).map (cv E) = _; rw [List.map_append, List.map_reverse]; rfl) (by rw [hb]; exact hd)
  have hpre : PreOf R mc ms (cPre E (vR b :: as) hc sz) ⟨T9.setVm vm₁, locs, cells, slots⟩ (Value.ref (eb E + b) :: as.map (cv E)).toArray := ⟨hc1, hc2, pre_of (U := T9.setVm vm₁) hSF hFF hRc hS hoka hT X₁.warmed⟩
  obtain ⟨v, B, X', hpost, hsteps⟩ := hK m meth c ⟨T9.setVm vm₁, locs, cells, slots⟩ { F0 m pc lv ((as.reverse ++ vR b :: st).map (cv E)) with stack := st.map (cv E) } (.invokespecial index) mk (Value.ref (eb E + b) :: as.map (cv E)).toArray X₁ rfl (by rw [hml]; exact hlv) (by rw [hb]; exact hd) (lroom (E := E) (st0 := st) st h4) (X₁.named hnamed) hpre
  obtain ⟨U', l2, c2, s2⟩ := B
  obtain ⟨g', mk', t, L, e1, e2, hq, q1, hL, q2, q3⟩ := hpost
  dsimp only [Pt.U, Pt.locs, Pt.cells, Pt.slots] at X' e1 e2 q1 q2 q3 hsteps
  subst q1; subst q2; subst q3
  exact ⟨v, (T9.setVm vm₁).calling g' mk' _, t, U', L, hT, X', hL, e1, e2, hq, fun target ht => hstep₁ _ (by rw [doInvoke_state]; exact hsteps.trans ht)⟩
end SUP
end
