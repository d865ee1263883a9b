-- ===== PART A: goes FIRST, ahead of the names: the tables' words, and 'selects' of the private methods out of them =====
/-- a private method of a class that the tables say can be made, by its rows of tables_1 -/
def lw_okq (q : MethodName × Nat) : Prop := (q.1.cls ≠ "java/lang/invoke/MethodHandle" ∧ q.1.cls ≠ "java/lang/invoke/VarHandle") ∧ Cond.instantiable q.1.cls q.2 ∈ tables_1 ∧ Cond.privateMethod q.1 ∈ tables_1 ∧ Cond.instanceMethod q.1 ∈ tables_1
theorem lw_p0 : lw_okq (⟨"RiverRoad", "found", "(I)I"⟩, 7) := ⟨⟨by decide +kernel, by decide +kernel⟩, List.mem_of_getElem? (i := 19) (by decide +kernel), List.mem_of_getElem? (i := 83) (by decide +kernel), List.mem_of_getElem? (i := 84) (by decide +kernel)⟩
theorem lw_p1 : lw_okq (⟨"RiverRoad", "settled", "(I)I"⟩, 7) := ⟨⟨by decide +kernel, by decide +kernel⟩, List.mem_of_getElem? (i := 19) (by decide +kernel), List.mem_of_getElem? (i := 102) (by decide +kernel), List.mem_of_getElem? (i := 103) (by decide +kernel)⟩
theorem lw_p2 : lw_okq (⟨"RiverRoad", "shelve", "(ILRiverRoad$Thing;)I"⟩, 7) := ⟨⟨by decide +kernel, by decide +kernel⟩, List.mem_of_getElem? (i := 19) (by decide +kernel), List.mem_of_getElem? (i := 215) (by decide +kernel), List.mem_of_getElem? (i := 216) (by decide +kernel)⟩
theorem lw_p3 : lw_okq (⟨"RiverRoad", "notThat", "(I)I"⟩, 7) := ⟨⟨by decide +kernel, by decide +kernel⟩, List.mem_of_getElem? (i := 19) (by decide +kernel), List.mem_of_getElem? (i := 250) (by decide +kernel), List.mem_of_getElem? (i := 251) (by decide +kernel)⟩
theorem lw_p4 : lw_okq (⟨"RiverRoad", "endingsOf", "(II)I"⟩, 7) := ⟨⟨by decide +kernel, by decide +kernel⟩, List.mem_of_getElem? (i := 19) (by decide +kernel), List.mem_of_getElem? (i := 377) (by decide +kernel), List.mem_of_getElem? (i := 378) (by decide +kernel)⟩
theorem lw_p5 : lw_okq (⟨"RiverRoad", "plusOfRank", "(II)J"⟩, 7) := ⟨⟨by decide +kernel, by decide +kernel⟩, List.mem_of_getElem? (i := 19) (by decide +kernel), List.mem_of_getElem? (i := 381) (by decide +kernel), List.mem_of_getElem? (i := 382) (by decide +kernel)⟩
theorem lw_p6 : lw_okq (⟨"RiverRoad", "rankOf", "(LRiverRoad$Arches;)I"⟩, 7) := ⟨⟨by decide +kernel, by decide +kernel⟩, List.mem_of_getElem? (i := 19) (by decide +kernel), List.mem_of_getElem? (i := 537) (by decide +kernel), List.mem_of_getElem? (i := 538) (by decide +kernel)⟩
theorem lw_p7 : lw_okq (⟨"RiverRoad", "seekNthFold", "(II)Z"⟩, 7) := ⟨⟨by decide +kernel, by decide +kernel⟩, List.mem_of_getElem? (i := 19) (by decide +kernel), List.mem_of_getElem? (i := 593) (by decide +kernel), List.mem_of_getElem? (i := 594) (by decide +kernel)⟩
theorem lw_p8 : lw_okq (⟨"RiverRoadModel", "finds", "(I)I"⟩, 34) := ⟨⟨by decide +kernel, by decide +kernel⟩, List.mem_of_getElem? (i := 623) (by decide +kernel), List.mem_of_getElem? (i := 745) (by decide +kernel), List.mem_of_getElem? (i := 746) (by decide +kernel)⟩
theorem lw_p9 : lw_okq (⟨"RiverRoadModel", "well", "(I)I"⟩, 34) := ⟨⟨by decide +kernel, by decide +kernel⟩, List.mem_of_getElem? (i := 623) (by decide +kernel), List.mem_of_getElem? (i := 750) (by decide +kernel), List.mem_of_getElem? (i := 751) (by decide +kernel)⟩
theorem lw_p10 : lw_okq (⟨"RiverRoadModel", "keep", "(II)I"⟩, 34) := ⟨⟨by decide +kernel, by decide +kernel⟩, List.mem_of_getElem? (i := 623) (by decide +kernel), List.mem_of_getElem? (i := 775) (by decide +kernel), List.mem_of_getElem? (i := 776) (by decide +kernel)⟩
theorem lw_p11 : lw_okq (⟨"RiverRoadModel", "rowKind", "()I"⟩, 34) := ⟨⟨by decide +kernel, by decide +kernel⟩, List.mem_of_getElem? (i := 623) (by decide +kernel), List.mem_of_getElem? (i := 779) (by decide +kernel), List.mem_of_getElem? (i := 780) (by decide +kernel)⟩
theorem lw_p12 : lw_okq (⟨"RiverRoadModel", "joins", "([I[III)Z"⟩, 34) := ⟨⟨by decide +kernel, by decide +kernel⟩, List.mem_of_getElem? (i := 623) (by decide +kernel), List.mem_of_getElem? (i := 783) (by decide +kernel), List.mem_of_getElem? (i := 784) (by decide +kernel)⟩
theorem lw_p13 : lw_okq (⟨"RiverRoadModel", "landLoops", "(I)I"⟩, 34) := ⟨⟨by decide +kernel, by decide +kernel⟩, List.mem_of_getElem? (i := 623) (by decide +kernel), List.mem_of_getElem? (i := 787) (by decide +kernel), List.mem_of_getElem? (i := 788) (by decide +kernel)⟩
theorem lw_p14 : lw_okq (⟨"RiverRoadModel", "findLoops", "([II[III)I"⟩, 34) := ⟨⟨by decide +kernel, by decide +kernel⟩, List.mem_of_getElem? (i := 623) (by decide +kernel), List.mem_of_getElem? (i := 791) (by decide +kernel), List.mem_of_getElem? (i := 792) (by decide +kernel)⟩
theorem lw_p15 : lw_okq (⟨"RiverRoadModel", "isFolding", "([III)Z"⟩, 34) := ⟨⟨by decide +kernel, by decide +kernel⟩, List.mem_of_getElem? (i := 623) (by decide +kernel), List.mem_of_getElem? (i := 795) (by decide +kernel), List.mem_of_getElem? (i := 796) (by decide +kernel)⟩
def lw_privs_1 : List (MethodName × Nat) := [(⟨"RiverRoad", "found", "(I)I"⟩, 7), (⟨"RiverRoad", "settled", "(I)I"⟩, 7), (⟨"RiverRoad", "shelve", "(ILRiverRoad$Thing;)I"⟩, 7), (⟨"RiverRoad", "notThat", "(I)I"⟩, 7), (⟨"RiverRoad", "endingsOf", "(II)I"⟩, 7), (⟨"RiverRoad", "plusOfRank", "(II)J"⟩, 7), (⟨"RiverRoad", "rankOf", "(LRiverRoad$Arches;)I"⟩, 7), (⟨"RiverRoad", "seekNthFold", "(II)Z"⟩, 7), (⟨"RiverRoadModel", "finds", "(I)I"⟩, 34), (⟨"RiverRoadModel", "well", "(I)I"⟩, 34), (⟨"RiverRoadModel", "keep", "(II)I"⟩, 34), (⟨"RiverRoadModel", "rowKind", "()I"⟩, 34), (⟨"RiverRoadModel", "joins", "([I[III)Z"⟩, 34), (⟨"RiverRoadModel", "landLoops", "(I)I"⟩, 34), (⟨"RiverRoadModel", "findLoops", "([II[III)I"⟩, 34), (⟨"RiverRoadModel", "isFolding", "([III)Z"⟩, 34)]
theorem lw_r1 : ∀ q ∈ lw_privs_1, lw_okq q := List.forall_mem_cons.mpr ⟨lw_p0, List.forall_mem_cons.mpr ⟨lw_p1, List.forall_mem_cons.mpr ⟨lw_p2, List.forall_mem_cons.mpr ⟨lw_p3, List.forall_mem_cons.mpr ⟨lw_p4, List.forall_mem_cons.mpr ⟨lw_p5, List.forall_mem_cons.mpr ⟨lw_p6, List.forall_mem_cons.mpr ⟨lw_p7, List.forall_mem_cons.mpr ⟨lw_p8, List.forall_mem_cons.mpr ⟨lw_p9, List.forall_mem_cons.mpr ⟨lw_p10, List.forall_mem_cons.mpr ⟨lw_p11, List.forall_mem_cons.mpr ⟨lw_p12, List.forall_mem_cons.mpr ⟨lw_p13, List.forall_mem_cons.mpr ⟨lw_p14, List.forall_mem_cons.mpr ⟨lw_p15, fun _ h => absurd h List.not_mem_nil⟩⟩⟩⟩⟩⟩⟩⟩⟩⟩⟩⟩⟩⟩⟩⟩
theorem lw_p16 : lw_okq (⟨"RiverRoadModel", "copyThing", "(II)V"⟩, 34) := ⟨⟨by decide +kernel, by decide +kernel⟩, List.mem_of_getElem? (i := 623) (by decide +kernel), List.mem_of_getElem? (i := 800) (by decide +kernel), List.mem_of_getElem? (i := 801) (by decide +kernel)⟩
theorem lw_p17 : lw_okq (⟨"RiverRoadModel", "refusal", "(II)I"⟩, 34) := ⟨⟨by decide +kernel, by decide +kernel⟩, List.mem_of_getElem? (i := 623) (by decide +kernel), List.mem_of_getElem? (i := 808) (by decide +kernel), List.mem_of_getElem? (i := 809) (by decide +kernel)⟩
theorem lw_p18 : lw_okq (⟨"RiverRoadModel", "tell", "([IIII)Z"⟩, 34) := ⟨⟨by decide +kernel, by decide +kernel⟩, List.mem_of_getElem? (i := 623) (by decide +kernel), List.mem_of_getElem? (i := 824) (by decide +kernel), List.mem_of_getElem? (i := 825) (by decide +kernel)⟩
theorem lw_p19 : lw_okq (⟨"RiverRoadModel", "endsOf", "(II)I"⟩, 34) := ⟨⟨by decide +kernel, by decide +kernel⟩, List.mem_of_getElem? (i := 623) (by decide +kernel), List.mem_of_getElem? (i := 828) (by decide +kernel), List.mem_of_getElem? (i := 829) (by decide +kernel)⟩
theorem lw_p20 : lw_okq (⟨"RiverRoadModel", "turnTo", "([II[III)V"⟩, 34) := ⟨⟨by decide +kernel, by decide +kernel⟩, List.mem_of_getElem? (i := 623) (by decide +kernel), List.mem_of_getElem? (i := 836) (by decide +kernel), List.mem_of_getElem? (i := 837) (by decide +kernel)⟩
theorem lw_p21 : lw_okq (⟨"RiverRoadModel", "mirrorTo", "([II[III)V"⟩, 34) := ⟨⟨by decide +kernel, by decide +kernel⟩, List.mem_of_getElem? (i := 623) (by decide +kernel), List.mem_of_getElem? (i := 844) (by decide +kernel), List.mem_of_getElem? (i := 845) (by decide +kernel)⟩
theorem lw_p22 : lw_okq (⟨"RiverRoadModel", "sizeOf", "(I)I"⟩, 34) := ⟨⟨by decide +kernel, by decide +kernel⟩, List.mem_of_getElem? (i := 623) (by decide +kernel), List.mem_of_getElem? (i := 869) (by decide +kernel), List.mem_of_getElem? (i := 870) (by decide +kernel)⟩
theorem lw_p23 : lw_okq (⟨"RiverRoadModel", "begins", "(I)V"⟩, 34) := ⟨⟨by decide +kernel, by decide +kernel⟩, List.mem_of_getElem? (i := 623) (by decide +kernel), List.mem_of_getElem? (i := 873) (by decide +kernel), List.mem_of_getElem? (i := 874) (by decide +kernel)⟩
theorem lw_p24 : lw_okq (⟨"RiverRoadModel", "worth", "(I)I"⟩, 34) := ⟨⟨by decide +kernel, by decide +kernel⟩, List.mem_of_getElem? (i := 623) (by decide +kernel), List.mem_of_getElem? (i := 877) (by decide +kernel), List.mem_of_getElem? (i := 878) (by decide +kernel)⟩
theorem lw_p25 : lw_okq (⟨"RiverRoadModel", "mark", "(I)I"⟩, 34) := ⟨⟨by decide +kernel, by decide +kernel⟩, List.mem_of_getElem? (i := 623) (by decide +kernel), List.mem_of_getElem? (i := 881) (by decide +kernel), List.mem_of_getElem? (i := 882) (by decide +kernel)⟩
theorem lw_p26 : lw_okq (⟨"RiverRoadModel", "rankOf", "([III)I"⟩, 34) := ⟨⟨by decide +kernel, by decide +kernel⟩, List.mem_of_getElem? (i := 623) (by decide +kernel), List.mem_of_getElem? (i := 902) (by decide +kernel), List.mem_of_getElem? (i := 903) (by decide +kernel)⟩
theorem lw_p27 : lw_okq (⟨"RiverRoadModel", "countLands", "(I)V"⟩, 34) := ⟨⟨by decide +kernel, by decide +kernel⟩, List.mem_of_getElem? (i := 623) (by decide +kernel), List.mem_of_getElem? (i := 919) (by decide +kernel), List.mem_of_getElem? (i := 920) (by decide +kernel)⟩
theorem lw_p28 : lw_okq (⟨"RiverRoadModel", "tellAll", "(I)I"⟩, 34) := ⟨⟨by decide +kernel, by decide +kernel⟩, List.mem_of_getElem? (i := 623) (by decide +kernel), List.mem_of_getElem? (i := 923) (by decide +kernel), List.mem_of_getElem? (i := 924) (by decide +kernel)⟩
theorem lw_p29 : lw_okq (⟨"RiverRoadModel", "goThrough", "(II)I"⟩, 34) := ⟨⟨by decide +kernel, by decide +kernel⟩, List.mem_of_getElem? (i := 623) (by decide +kernel), List.mem_of_getElem? (i := 950) (by decide +kernel), List.mem_of_getElem? (i := 951) (by decide +kernel)⟩
theorem lw_p30 : lw_okq (⟨"RiverRoadModel", "nextOrder", "(I)Z"⟩, 34) := ⟨⟨by decide +kernel, by decide +kernel⟩, List.mem_of_getElem? (i := 623) (by decide +kernel), List.mem_of_getElem? (i := 954) (by decide +kernel), List.mem_of_getElem? (i := 955) (by decide +kernel)⟩
def lw_privs_2 : List (MethodName × Nat) := [(⟨"RiverRoadModel", "copyThing", "(II)V"⟩, 34), (⟨"RiverRoadModel", "refusal", "(II)I"⟩, 34), (⟨"RiverRoadModel", "tell", "([IIII)Z"⟩, 34), (⟨"RiverRoadModel", "endsOf", "(II)I"⟩, 34), (⟨"RiverRoadModel", "turnTo", "([II[III)V"⟩, 34), (⟨"RiverRoadModel", "mirrorTo", "([II[III)V"⟩, 34), (⟨"RiverRoadModel", "sizeOf", "(I)I"⟩, 34), (⟨"RiverRoadModel", "begins", "(I)V"⟩, 34), (⟨"RiverRoadModel", "worth", "(I)I"⟩, 34), (⟨"RiverRoadModel", "mark", "(I)I"⟩, 34), (⟨"RiverRoadModel", "rankOf", "([III)I"⟩, 34), (⟨"RiverRoadModel", "countLands", "(I)V"⟩, 34), (⟨"RiverRoadModel", "tellAll", "(I)I"⟩, 34), (⟨"RiverRoadModel", "goThrough", "(II)I"⟩, 34), (⟨"RiverRoadModel", "nextOrder", "(I)Z"⟩, 34)]
theorem lw_r2 : ∀ q ∈ lw_privs_2, lw_okq q := List.forall_mem_cons.mpr ⟨lw_p16, List.forall_mem_cons.mpr ⟨lw_p17, List.forall_mem_cons.mpr ⟨lw_p18, List.forall_mem_cons.mpr ⟨lw_p19, List.forall_mem_cons.mpr ⟨lw_p20, List.forall_mem_cons.mpr ⟨lw_p21, List.forall_mem_cons.mpr ⟨lw_p22, List.forall_mem_cons.mpr ⟨lw_p23, List.forall_mem_cons.mpr ⟨lw_p24, List.forall_mem_cons.mpr ⟨lw_p25, List.forall_mem_cons.mpr ⟨lw_p26, List.forall_mem_cons.mpr ⟨lw_p27, List.forall_mem_cons.mpr ⟨lw_p28, List.forall_mem_cons.mpr ⟨lw_p29, List.forall_mem_cons.mpr ⟨lw_p30, fun _ h => absurd h List.not_mem_nil⟩⟩⟩⟩⟩⟩⟩⟩⟩⟩⟩⟩⟩⟩⟩
def lw_privs : List (MethodName × Nat) := lw_privs_1 ++ (lw_privs_2)
def lw_tbl : List Cond := k2_sels lw_privs ++ tables_1
theorem lw_privs_ok : ∀ q ∈ lw_privs, lw_okq q := by
  show ∀ q ∈ lw_privs_1 ++ (lw_privs_2), lw_okq q
  exact List.forall_mem_append.mpr ⟨lw_r1, lw_r2⟩
/-! fields of the classes, in an order of ours: n is the first of every THING, plus the second of every ROW, partner the third of all ARCHES -/
def F_RR : u_T := fun k => match k with
  | 0 => ("RiverRoad", "sheets", "[LRiverRoad$Sheet;", true)
  | 1 => ("RiverRoad", "shelf", "[LRiverRoad$Thing;", true)
  | 2 => ("RiverRoad", "bodies", "LRiverRoad$Trace;", true)
  | 3 => ("RiverRoad", "endings", "[I", true)
  | 4 => ("RiverRoad", "foldStamps", "[I", true)
  | 5 => ("RiverRoad", "foldPlaces", "[I", true)
  | _ => ("RiverRoad", "latestFinding", "I", false)
def t_RR : Nat → FieldType := fun k => match k with
  | 0 => .array (.object "RiverRoad$Sheet")
  | 1 => .array (.object "RiverRoad$Thing")
  | 2 => .object "RiverRoad$Trace"
  | 3 => .array .int
  | 4 => .array .int
  | 5 => .array .int
  | _ => .int
def F_Tr : u_T := fun k => match k with
  | 0 => ("RiverRoad$Trace", "numbers", "[I", true)
  | _ => ("RiverRoad$Trace", "length", "I", false)
def t_Tr : Nat → FieldType := fun k => match k with
  | 0 => .array .int
  | _ => .int
def F_Sh : u_T := fun k => match k with
  | 0 => ("RiverRoad$Sheet", "lane", "I", true)
  | _ => ("RiverRoad$Sheet", "items", "[I", true)
def t_Sh : Nat → FieldType := fun k => match k with
  | 0 => .int
  | _ => .array .int
def F_Row : u_T := fun k => match k with
  | 0 => ("RiverRoad$Thing", "n", "I", true)
  | _ => ("RiverRoad$Row", "plus", "J", true)
def t_Row : Nat → FieldType := fun k => match k with
  | 0 => .int
  | _ => .long
def F_Ar : u_T := fun k => match k with
  | 0 => ("RiverRoad$Thing", "n", "I", true)
  | 1 => ("RiverRoad$Row", "plus", "J", true)
  | _ => ("RiverRoad$Arches", "partner", "[I", true)
def t_Ar : Nat → FieldType := fun k => match k with
  | 0 => .int
  | 1 => .long
  | _ => .array .int
def F_La : u_T := fun k => match k with
  | 0 => ("RiverRoad$Thing", "n", "I", true)
  | 1 => ("RiverRoad$Land", "over", "LRiverRoad$Arches;", true)
  | 2 => ("RiverRoad$Land", "under", "LRiverRoad$Arches;", true)
  | 3 => ("RiverRoad$Land", "loopOf", "[I", true)
  | _ => ("RiverRoad$Land", "loopCount", "I", true)
def t_La : Nat → FieldType := fun k => match k with
  | 0 => .int
  | 1 => .object "RiverRoad$Arches"
  | 2 => .object "RiverRoad$Arches"
  | 3 => .array .int
  | _ => .int
def F_St : u_T := fun k => match k with
  | 0 => ("RiverRoad$Thing", "n", "I", true)
  | 1 => ("RiverRoad$Strip", "stamps", "[I", true)
  | 2 => ("RiverRoad$Strip", "placeOf", "[I", true)
  | 3 => ("RiverRoad$Strip", "clashFirst", "I", true)
  | _ => ("RiverRoad$Strip", "clashSecond", "I", true)
def t_St : Nat → FieldType := fun k => match k with
  | 0 => .int
  | 1 => .array .int
  | 2 => .array .int
  | 3 => .int
  | _ => .int
def F_Mo : u_T := fun k => match k with
  | 0 => ("RiverRoadModel", "lane", "[I", true)
  | 1 => ("RiverRoadModel", "size", "[I", true)
  | 2 => ("RiverRoadModel", "item", "[I", true)
  | 3 => ("RiverRoadModel", "moving", "[I", true)
  | 4 => ("RiverRoadModel", "kinds", "[I", true)
  | 5 => ("RiverRoadModel", "many", "[I", true)
  | 6 => ("RiverRoadModel", "one", "[I", true)
  | 7 => ("RiverRoadModel", "two", "[I", true)
  | 8 => ("RiverRoadModel", "over", "[I", true)
  | 9 => ("RiverRoadModel", "under", "[I", true)
  | 10 => ("RiverRoadModel", "status", "I", false)
  | 11 => ("RiverRoadModel", "trace", "[I", true)
  | 12 => ("RiverRoadModel", "traced", "I", false)
  | 13 => ("RiverRoadModel", "open", "[I", true)
  | 14 => ("RiverRoadModel", "loopOf", "[I", true)
  | 15 => ("RiverRoadModel", "stands", "[I", true)
  | 16 => ("RiverRoadModel", "clashOne", "I", false)
  | 17 => ("RiverRoadModel", "clashTwo", "I", false)
  | 18 => ("RiverRoadModel", "met", "[Z", true)
  | 19 => ("RiverRoadModel", "ends", "[I", true)
  | 20 => ("RiverRoadModel", "isCounted", "Z", false)
  | 21 => ("RiverRoadModel", "allSigns", "[I", true)
  | 22 => ("RiverRoadModel", "allJoined", "[I", true)
  | 23 => ("RiverRoadModel", "allOf", "I", false)
  | 24 => ("RiverRoadModel", "landCount", "[I", true)
  | 25 => ("RiverRoadModel", "isLandCounted", "[Z", true)
  | 26 => ("RiverRoadModel", "unlikes", "[I", true)
  | 27 => ("RiverRoadModel", "foldCount", "[I", true)
  | 28 => ("RiverRoadModel", "open2", "[I", true)
  | 29 => ("RiverRoadModel", "isDone", "[Z", true)
  | 30 => ("RiverRoadModel", "turned", "[I", true)
  | 31 => ("RiverRoadModel", "mirrored", "[I", true)
  | 32 => ("RiverRoadModel", "toDo", "[I", true)
  | _ => ("RiverRoadModel", "order", "[I", true)
def t_Mo : Nat → FieldType := fun k => match k with
  | 0 => .array .int
  | 1 => .array .int
  | 2 => .array .int
  | 3 => .array .int
  | 4 => .array .int
  | 5 => .array .int
  | 6 => .array .int
  | 7 => .array .int
  | 8 => .array .int
  | 9 => .array .int
  | 10 => .int
  | 11 => .array .int
  | 12 => .int
  | 13 => .array .int
  | 14 => .array .int
  | 15 => .array .int
  | 16 => .int
  | 17 => .int
  | 18 => .array .boolean
  | 19 => .array .int
  | 20 => .boolean
  | 21 => .array .int
  | 22 => .array .int
  | 23 => .int
  | 24 => .array .int
  | 25 => .array .boolean
  | 26 => .array .int
  | 27 => .array .int
  | 28 => .array .int
  | 29 => .array .boolean
  | 30 => .array .int
  | 31 => .array .int
  | 32 => .array .int
  | _ => .array .int
abbrev classes : List vw_C := [("RiverRoad", F_RR, 7), ("RiverRoad$Trace", F_Tr, 2), ("RiverRoad$Sheet", F_Sh, 2), ("RiverRoad$Row", F_Row, 2), ("RiverRoad$Arches", F_Ar, 3), ("RiverRoad$Nest", F_Ar, 3), ("RiverRoad$Peaks", F_Ar, 3), ("RiverRoad$Land", F_La, 5), ("RiverRoad$Loop", F_La, 5), ("RiverRoad$Strip", F_St, 5), ("RiverRoad$Fold", F_St, 5), ("RiverRoadModel", F_Mo, 34)]
theorem n_RR : ∀ a, a < 7 → ∀ b, b < 7 → a ≠ b → (F_RR a).2.1 ≠ (F_RR b).2.1 := by decide +kernel
theorem t_RR_ok : ∀ k, k < 7 → parseFieldDescriptor (F_RR k).2.2.1 = some (t_RR k) := by decide +kernel
theorem n_Tr : ∀ a, a < 2 → ∀ b, b < 2 → a ≠ b → (F_Tr a).2.1 ≠ (F_Tr b).2.1 := by decide +kernel
theorem t_Tr_ok : ∀ k, k < 2 → parseFieldDescriptor (F_Tr k).2.2.1 = some (t_Tr k) := by decide +kernel
theorem n_Sh : ∀ a, a < 2 → ∀ b, b < 2 → a ≠ b → (F_Sh a).2.1 ≠ (F_Sh b).2.1 := by decide +kernel
theorem t_Sh_ok : ∀ k, k < 2 → parseFieldDescriptor (F_Sh k).2.2.1 = some (t_Sh k) := by decide +kernel
theorem n_Row : ∀ a, a < 2 → ∀ b, b < 2 → a ≠ b → (F_Row a).2.1 ≠ (F_Row b).2.1 := by decide +kernel
theorem t_Row_ok : ∀ k, k < 2 → parseFieldDescriptor (F_Row k).2.2.1 = some (t_Row k) := by decide +kernel
theorem n_Ar : ∀ a, a < 3 → ∀ b, b < 3 → a ≠ b → (F_Ar a).2.1 ≠ (F_Ar b).2.1 := by decide +kernel
theorem t_Ar_ok : ∀ k, k < 3 → parseFieldDescriptor (F_Ar k).2.2.1 = some (t_Ar k) := by decide +kernel
theorem n_La : ∀ a, a < 5 → ∀ b, b < 5 → a ≠ b → (F_La a).2.1 ≠ (F_La b).2.1 := by decide +kernel
theorem t_La_ok : ∀ k, k < 5 → parseFieldDescriptor (F_La k).2.2.1 = some (t_La k) := by decide +kernel
theorem n_St : ∀ a, a < 5 → ∀ b, b < 5 → a ≠ b → (F_St a).2.1 ≠ (F_St b).2.1 := by decide +kernel
theorem t_St_ok : ∀ k, k < 5 → parseFieldDescriptor (F_St k).2.2.1 = some (t_St k) := by decide +kernel
theorem n_Mo : ∀ a, a < 34 → ∀ b, b < 34 → a ≠ b → (F_Mo a).2.1 ≠ (F_Mo b).2.1 := by decide +kernel
theorem t_Mo_ok : ∀ k, k < 34 → parseFieldDescriptor (F_Mo k).2.2.1 = some (t_Mo k) := by decide +kernel
theorem i_RR : ∀ w ∈ u_ws "RiverRoad" F_RR 7, w ∈ lw_tbl := by decide +kernel
theorem i_Tr : ∀ w ∈ u_ws "RiverRoad$Trace" F_Tr 2, w ∈ lw_tbl := by decide +kernel
theorem i_Sh : ∀ w ∈ u_ws "RiverRoad$Sheet" F_Sh 2, w ∈ lw_tbl := by decide +kernel
theorem i_Row : ∀ w ∈ u_ws "RiverRoad$Row" F_Row 2, w ∈ lw_tbl := by decide +kernel
theorem i_Ar : ∀ w ∈ u_ws "RiverRoad$Arches" F_Ar 3, w ∈ lw_tbl := by decide +kernel
theorem i_Ne : ∀ w ∈ u_ws "RiverRoad$Nest" F_Ar 3, w ∈ lw_tbl := by decide +kernel
theorem i_Pe : ∀ w ∈ u_ws "RiverRoad$Peaks" F_Ar 3, w ∈ lw_tbl := by decide +kernel
theorem i_La : ∀ w ∈ u_ws "RiverRoad$Land" F_La 5, w ∈ lw_tbl := by decide +kernel
theorem i_Lo : ∀ w ∈ u_ws "RiverRoad$Loop" F_La 5, w ∈ lw_tbl := by decide +kernel
theorem i_St : ∀ w ∈ u_ws "RiverRoad$Strip" F_St 5, w ∈ lw_tbl := by decide +kernel
theorem i_Fo : ∀ w ∈ u_ws "RiverRoad$Fold" F_St 5, w ∈ lw_tbl := by decide +kernel
theorem i_Mo : ∀ w ∈ u_ws "RiverRoadModel" F_Mo 34, w ∈ lw_tbl := by decide +kernel
